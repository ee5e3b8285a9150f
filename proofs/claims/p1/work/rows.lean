section
-- ===== PART A: goes FIRST, ahead of the names: the tables' words, and 'selects' of the private methods out of them =====
/-- a private method of a class that the tables say can be made, by its rows of tables_1 -/
def lw_okq (q : MethodName × Nat) : Prop := (q.1.cls ≠ "java/lang/invoke/MethodHandle" ∧ q.1.cls ≠ "java/lang/invoke/VarHandle") ∧ Cond.instantiable q.1.cls q.2 ∈ tables_1 ∧ Cond.privateMethod q.1 ∈ tables_1 ∧ Cond.instanceMethod q.1 ∈ tables_1
theorem lw_p0 : lw_okq (⟨"SignalTable$Laws", "listHands", "()V"⟩, 16) := ⟨⟨by decide +kernel, by decide +kernel⟩, List.mem_of_getElem? (i := 30) (by decide +kernel), List.mem_of_getElem? (i := 547) (by decide +kernel), List.mem_of_getElem? (i := 548) (by decide +kernel)⟩
theorem lw_p1 : lw_okq (⟨"SignalTable", "append", "(I)V"⟩, 14) := ⟨⟨by decide +kernel, by decide +kernel⟩, List.mem_of_getElem? (i := 22) (by decide +kernel), List.mem_of_getElem? (i := 602) (by decide +kernel), List.mem_of_getElem? (i := 603) (by decide +kernel)⟩
theorem lw_p2 : lw_okq (⟨"SignalTable$Tokens", "cutName", "([BII)I"⟩, 5) := ⟨⟨by decide +kernel, by decide +kernel⟩, List.mem_of_getElem? (i := 151) (by decide +kernel), List.mem_of_getElem? (i := 625) (by decide +kernel), List.mem_of_getElem? (i := 626) (by decide +kernel)⟩
theorem lw_p3 : lw_okq (⟨"SignalTable$Tokens", "note", "(IJI)V"⟩, 5) := ⟨⟨by decide +kernel, by decide +kernel⟩, List.mem_of_getElem? (i := 151) (by decide +kernel), List.mem_of_getElem? (i := 629) (by decide +kernel), List.mem_of_getElem? (i := 630) (by decide +kernel)⟩
theorem lw_p4 : lw_okq (⟨"SignalTable$Tokens", "kindOfWord", "(J)I"⟩, 5) := ⟨⟨by decide +kernel, by decide +kernel⟩, List.mem_of_getElem? (i := 151) (by decide +kernel), List.mem_of_getElem? (i := 633) (by decide +kernel), List.mem_of_getElem? (i := 634) (by decide +kernel)⟩
theorem lw_p5 : lw_okq (⟨"SignalTable$Tokens", "cutInt", "([BII)I"⟩, 5) := ⟨⟨by decide +kernel, by decide +kernel⟩, List.mem_of_getElem? (i := 151) (by decide +kernel), List.mem_of_getElem? (i := 640) (by decide +kernel), List.mem_of_getElem? (i := 641) (by decide +kernel)⟩
theorem lw_p6 : lw_okq (⟨"SignalTable$Tokens", "cutSign", "([BII)I"⟩, 5) := ⟨⟨by decide +kernel, by decide +kernel⟩, List.mem_of_getElem? (i := 151) (by decide +kernel), List.mem_of_getElem? (i := 644) (by decide +kernel), List.mem_of_getElem? (i := 645) (by decide +kernel)⟩
theorem lw_p7 : lw_okq (⟨"SignalTable$Reader", "readPack", "()V"⟩, 11) := ⟨⟨by decide +kernel, by decide +kernel⟩, List.mem_of_getElem? (i := 145) (by decide +kernel), List.mem_of_getElem? (i := 655) (by decide +kernel), List.mem_of_getElem? (i := 656) (by decide +kernel)⟩
theorem lw_p8 : lw_okq (⟨"SignalTable$Reader", "take", "(I)Z"⟩, 11) := ⟨⟨by decide +kernel, by decide +kernel⟩, List.mem_of_getElem? (i := 145) (by decide +kernel), List.mem_of_getElem? (i := 659) (by decide +kernel), List.mem_of_getElem? (i := 660) (by decide +kernel)⟩
theorem lw_p9 : lw_okq (⟨"SignalTable$Reader", "number", "(II)I"⟩, 11) := ⟨⟨by decide +kernel, by decide +kernel⟩, List.mem_of_getElem? (i := 145) (by decide +kernel), List.mem_of_getElem? (i := 663) (by decide +kernel), List.mem_of_getElem? (i := 664) (by decide +kernel)⟩
theorem lw_p10 : lw_okq (⟨"SignalTable$Reader", "refuseLater", "(II)V"⟩, 11) := ⟨⟨by decide +kernel, by decide +kernel⟩, List.mem_of_getElem? (i := 145) (by decide +kernel), List.mem_of_getElem? (i := 667) (by decide +kernel), List.mem_of_getElem? (i := 668) (by decide +kernel)⟩
theorem lw_p11 : lw_okq (⟨"SignalTable$Reader", "readTrump", "()V"⟩, 11) := ⟨⟨by decide +kernel, by decide +kernel⟩, List.mem_of_getElem? (i := 145) (by decide +kernel), List.mem_of_getElem? (i := 671) (by decide +kernel), List.mem_of_getElem? (i := 672) (by decide +kernel)⟩
theorem lw_p12 : lw_okq (⟨"SignalTable$Reader", "full", "()Z"⟩, 11) := ⟨⟨by decide +kernel, by decide +kernel⟩, List.mem_of_getElem? (i := 145) (by decide +kernel), List.mem_of_getElem? (i := 675) (by decide +kernel), List.mem_of_getElem? (i := 676) (by decide +kernel)⟩
theorem lw_p13 : lw_okq (⟨"SignalTable$Reader", "readCustom", "()V"⟩, 11) := ⟨⟨by decide +kernel, by decide +kernel⟩, List.mem_of_getElem? (i := 145) (by decide +kernel), List.mem_of_getElem? (i := 679) (by decide +kernel), List.mem_of_getElem? (i := 680) (by decide +kernel)⟩
theorem lw_p14 : lw_okq (⟨"SignalTable$Reader", "readName", "()Z"⟩, 11) := ⟨⟨by decide +kernel, by decide +kernel⟩, List.mem_of_getElem? (i := 145) (by decide +kernel), List.mem_of_getElem? (i := 683) (by decide +kernel), List.mem_of_getElem? (i := 684) (by decide +kernel)⟩
theorem lw_p15 : lw_okq (⟨"SignalTable$Reader", "condition", "()Z"⟩, 11) := ⟨⟨by decide +kernel, by decide +kernel⟩, List.mem_of_getElem? (i := 145) (by decide +kernel), List.mem_of_getElem? (i := 693) (by decide +kernel), List.mem_of_getElem? (i := 694) (by decide +kernel)⟩
def lw_privs_1 : List (MethodName × Nat) := [(⟨"SignalTable$Laws", "listHands", "()V"⟩, 16), (⟨"SignalTable", "append", "(I)V"⟩, 14), (⟨"SignalTable$Tokens", "cutName", "([BII)I"⟩, 5), (⟨"SignalTable$Tokens", "note", "(IJI)V"⟩, 5), (⟨"SignalTable$Tokens", "kindOfWord", "(J)I"⟩, 5), (⟨"SignalTable$Tokens", "cutInt", "([BII)I"⟩, 5), (⟨"SignalTable$Tokens", "cutSign", "([BII)I"⟩, 5), (⟨"SignalTable$Reader", "readPack", "()V"⟩, 11), (⟨"SignalTable$Reader", "take", "(I)Z"⟩, 11), (⟨"SignalTable$Reader", "number", "(II)I"⟩, 11), (⟨"SignalTable$Reader", "refuseLater", "(II)V"⟩, 11), (⟨"SignalTable$Reader", "readTrump", "()V"⟩, 11), (⟨"SignalTable$Reader", "full", "()Z"⟩, 11), (⟨"SignalTable$Reader", "readCustom", "()V"⟩, 11), (⟨"SignalTable$Reader", "readName", "()Z"⟩, 11), (⟨"SignalTable$Reader", "condition", "()Z"⟩, 11)]
theorem lw_r1 : ∀ q ∈ lw_privs_1, lw_okq q := List.forall_mem_cons.mpr ⟨lw_p0, List.forall_mem_cons.mpr ⟨lw_p1, List.forall_mem_cons.mpr ⟨lw_p2, List.forall_mem_cons.mpr ⟨lw_p3, List.forall_mem_cons.mpr ⟨lw_p4, List.forall_mem_cons.mpr ⟨lw_p5, List.forall_mem_cons.mpr ⟨lw_p6, List.forall_mem_cons.mpr ⟨lw_p7, List.forall_mem_cons.mpr ⟨lw_p8, List.forall_mem_cons.mpr ⟨lw_p9, List.forall_mem_cons.mpr ⟨lw_p10, List.forall_mem_cons.mpr ⟨lw_p11, List.forall_mem_cons.mpr ⟨lw_p12, List.forall_mem_cons.mpr ⟨lw_p13, List.forall_mem_cons.mpr ⟨lw_p14, List.forall_mem_cons.mpr ⟨lw_p15, fun _ h => absurd h List.not_mem_nil⟩⟩⟩⟩⟩⟩⟩⟩⟩⟩⟩⟩⟩⟩⟩⟩
theorem lw_p16 : lw_okq (⟨"SignalTable$Reader", "literal", "()Z"⟩, 11) := ⟨⟨by decide +kernel, by decide +kernel⟩, List.mem_of_getElem? (i := 145) (by decide +kernel), List.mem_of_getElem? (i := 697) (by decide +kernel), List.mem_of_getElem? (i := 698) (by decide +kernel)⟩
theorem lw_p17 : lw_okq (⟨"SignalTable$Reader", "expression", "(I)Z"⟩, 11) := ⟨⟨by decide +kernel, by decide +kernel⟩, List.mem_of_getElem? (i := 145) (by decide +kernel), List.mem_of_getElem? (i := 701) (by decide +kernel), List.mem_of_getElem? (i := 702) (by decide +kernel)⟩
theorem lw_p18 : lw_okq (⟨"SignalTable$Reader", "unit", "(I)Z"⟩, 11) := ⟨⟨by decide +kernel, by decide +kernel⟩, List.mem_of_getElem? (i := 145) (by decide +kernel), List.mem_of_getElem? (i := 705) (by decide +kernel), List.mem_of_getElem? (i := 706) (by decide +kernel)⟩
theorem lw_p19 : lw_okq (⟨"SignalTable$Reader", "add", "(II)V"⟩, 11) := ⟨⟨by decide +kernel, by decide +kernel⟩, List.mem_of_getElem? (i := 145) (by decide +kernel), List.mem_of_getElem? (i := 709) (by decide +kernel), List.mem_of_getElem? (i := 710) (by decide +kernel)⟩
theorem lw_p20 : lw_okq (⟨"SignalTable", "startAnew", "()V"⟩, 14) := ⟨⟨by decide +kernel, by decide +kernel⟩, List.mem_of_getElem? (i := 22) (by decide +kernel), List.mem_of_getElem? (i := 721) (by decide +kernel), List.mem_of_getElem? (i := 722) (by decide +kernel)⟩
theorem lw_p21 : lw_okq (⟨"SignalTable$Game", "row", "(I)I"⟩, 18) := ⟨⟨by decide +kernel, by decide +kernel⟩, List.mem_of_getElem? (i := 262) (by decide +kernel), List.mem_of_getElem? (i := 767) (by decide +kernel), List.mem_of_getElem? (i := 768) (by decide +kernel)⟩
theorem lw_p22 : lw_okq (⟨"SignalTable", "isHand", "(I)Z"⟩, 14) := ⟨⟨by decide +kernel, by decide +kernel⟩, List.mem_of_getElem? (i := 22) (by decide +kernel), List.mem_of_getElem? (i := 787) (by decide +kernel), List.mem_of_getElem? (i := 788) (by decide +kernel)⟩
theorem lw_p23 : lw_okq (⟨"SignalTable", "isPlayer", "(I)Z"⟩, 14) := ⟨⟨by decide +kernel, by decide +kernel⟩, List.mem_of_getElem? (i := 22) (by decide +kernel), List.mem_of_getElem? (i := 802) (by decide +kernel), List.mem_of_getElem? (i := 803) (by decide +kernel)⟩
theorem lw_p24 : lw_okq (⟨"SignalTable", "isInHand", "(I)Z"⟩, 14) := ⟨⟨by decide +kernel, by decide +kernel⟩, List.mem_of_getElem? (i := 22) (by decide +kernel), List.mem_of_getElem? (i := 831) (by decide +kernel), List.mem_of_getElem? (i := 832) (by decide +kernel)⟩
theorem lw_p25 : lw_okq (⟨"SignalTable", "isCard", "(I)Z"⟩, 14) := ⟨⟨by decide +kernel, by decide +kernel⟩, List.mem_of_getElem? (i := 22) (by decide +kernel), List.mem_of_getElem? (i := 835) (by decide +kernel), List.mem_of_getElem? (i := 836) (by decide +kernel)⟩
theorem lw_p26 : lw_okq (⟨"SignalTable$Game", "kindOf", "(II)I"⟩, 18) := ⟨⟨by decide +kernel, by decide +kernel⟩, List.mem_of_getElem? (i := 262) (by decide +kernel), List.mem_of_getElem? (i := 843) (by decide +kernel), List.mem_of_getElem? (i := 844) (by decide +kernel)⟩
theorem lw_p27 : lw_okq (⟨"SignalTable$Game", "rankBefore", "(I)I"⟩, 18) := ⟨⟨by decide +kernel, by decide +kernel⟩, List.mem_of_getElem? (i := 262) (by decide +kernel), List.mem_of_getElem? (i := 847) (by decide +kernel), List.mem_of_getElem? (i := 848) (by decide +kernel)⟩
theorem lw_p28 : lw_okq (⟨"SignalTable$Game", "applying", "(I)I"⟩, 18) := ⟨⟨by decide +kernel, by decide +kernel⟩, List.mem_of_getElem? (i := 262) (by decide +kernel), List.mem_of_getElem? (i := 855) (by decide +kernel), List.mem_of_getElem? (i := 856) (by decide +kernel)⟩
theorem lw_p29 : lw_okq (⟨"SignalTable$Game", "next", "()I"⟩, 18) := ⟨⟨by decide +kernel, by decide +kernel⟩, List.mem_of_getElem? (i := 262) (by decide +kernel), List.mem_of_getElem? (i := 889) (by decide +kernel), List.mem_of_getElem? (i := 890) (by decide +kernel)⟩
theorem lw_p30 : lw_okq (⟨"SignalTable", "areCustoms", "(I)Z"⟩, 14) := ⟨⟨by decide +kernel, by decide +kernel⟩, List.mem_of_getElem? (i := 22) (by decide +kernel), List.mem_of_getElem? (i := 934) (by decide +kernel), List.mem_of_getElem? (i := 935) (by decide +kernel)⟩
theorem lw_p31 : lw_okq (⟨"SignalTable", "canSee", "(II)Z"⟩, 14) := ⟨⟨by decide +kernel, by decide +kernel⟩, List.mem_of_getElem? (i := 22) (by decide +kernel), List.mem_of_getElem? (i := 942) (by decide +kernel), List.mem_of_getElem? (i := 943) (by decide +kernel)⟩
def lw_privs_2 : List (MethodName × Nat) := [(⟨"SignalTable$Reader", "literal", "()Z"⟩, 11), (⟨"SignalTable$Reader", "expression", "(I)Z"⟩, 11), (⟨"SignalTable$Reader", "unit", "(I)Z"⟩, 11), (⟨"SignalTable$Reader", "add", "(II)V"⟩, 11), (⟨"SignalTable", "startAnew", "()V"⟩, 14), (⟨"SignalTable$Game", "row", "(I)I"⟩, 18), (⟨"SignalTable", "isHand", "(I)Z"⟩, 14), (⟨"SignalTable", "isPlayer", "(I)Z"⟩, 14), (⟨"SignalTable", "isInHand", "(I)Z"⟩, 14), (⟨"SignalTable", "isCard", "(I)Z"⟩, 14), (⟨"SignalTable$Game", "kindOf", "(II)I"⟩, 18), (⟨"SignalTable$Game", "rankBefore", "(I)I"⟩, 18), (⟨"SignalTable$Game", "applying", "(I)I"⟩, 18), (⟨"SignalTable$Game", "next", "()I"⟩, 18), (⟨"SignalTable", "areCustoms", "(I)Z"⟩, 14), (⟨"SignalTable", "canSee", "(II)Z"⟩, 14)]
theorem lw_r2 : ∀ q ∈ lw_privs_2, lw_okq q := List.forall_mem_cons.mpr ⟨lw_p16, List.forall_mem_cons.mpr ⟨lw_p17, List.forall_mem_cons.mpr ⟨lw_p18, List.forall_mem_cons.mpr ⟨lw_p19, List.forall_mem_cons.mpr ⟨lw_p20, List.forall_mem_cons.mpr ⟨lw_p21, List.forall_mem_cons.mpr ⟨lw_p22, List.forall_mem_cons.mpr ⟨lw_p23, List.forall_mem_cons.mpr ⟨lw_p24, List.forall_mem_cons.mpr ⟨lw_p25, List.forall_mem_cons.mpr ⟨lw_p26, List.forall_mem_cons.mpr ⟨lw_p27, List.forall_mem_cons.mpr ⟨lw_p28, List.forall_mem_cons.mpr ⟨lw_p29, List.forall_mem_cons.mpr ⟨lw_p30, List.forall_mem_cons.mpr ⟨lw_p31, fun _ h => absurd h List.not_mem_nil⟩⟩⟩⟩⟩⟩⟩⟩⟩⟩⟩⟩⟩⟩⟩⟩
theorem lw_p32 : lw_okq (⟨"SignalTable", "look", "(III)V"⟩, 14) := ⟨⟨by decide +kernel, by decide +kernel⟩, List.mem_of_getElem? (i := 22) (by decide +kernel), List.mem_of_getElem? (i := 946) (by decide +kernel), List.mem_of_getElem? (i := 947) (by decide +kernel)⟩
theorem lw_p33 : lw_okq (⟨"SignalTable$Deals", "fits", "(LSignalTable$Game;IIII)Z"⟩, 13) := ⟨⟨by decide +kernel, by decide +kernel⟩, List.mem_of_getElem? (i := 414) (by decide +kernel), List.mem_of_getElem? (i := 954) (by decide +kernel), List.mem_of_getElem? (i := 955) (by decide +kernel)⟩
theorem lw_p34 : lw_okq (⟨"SignalTable$Deals", "note", "(II)V"⟩, 13) := ⟨⟨by decide +kernel, by decide +kernel⟩, List.mem_of_getElem? (i := 414) (by decide +kernel), List.mem_of_getElem? (i := 961) (by decide +kernel), List.mem_of_getElem? (i := 962) (by decide +kernel)⟩
theorem lw_p35 : lw_okq (⟨"SignalTable$Deals", "isFitting", "(II)Z"⟩, 13) := ⟨⟨by decide +kernel, by decide +kernel⟩, List.mem_of_getElem? (i := 414) (by decide +kernel), List.mem_of_getElem? (i := 979) (by decide +kernel), List.mem_of_getElem? (i := 980) (by decide +kernel)⟩
theorem lw_p36 : lw_okq (⟨"SignalTable$Deals", "ways", "(III)I"⟩, 13) := ⟨⟨by decide +kernel, by decide +kernel⟩, List.mem_of_getElem? (i := 414) (by decide +kernel), List.mem_of_getElem? (i := 1011) (by decide +kernel), List.mem_of_getElem? (i := 1012) (by decide +kernel)⟩
theorem lw_p37 : lw_okq (⟨"SignalTable$Deals", "isSure", "(III)Z"⟩, 13) := ⟨⟨by decide +kernel, by decide +kernel⟩, List.mem_of_getElem? (i := 414) (by decide +kernel), List.mem_of_getElem? (i := 1015) (by decide +kernel), List.mem_of_getElem? (i := 1016) (by decide +kernel)⟩
theorem lw_p38 : lw_okq (⟨"SignalTable$Open", "standRemembering", "(LSignalTable$Game;)V"⟩, 14) := ⟨⟨by decide +kernel, by decide +kernel⟩, List.mem_of_getElem? (i := 363) (by decide +kernel), List.mem_of_getElem? (i := 1028) (by decide +kernel), List.mem_of_getElem? (i := 1029) (by decide +kernel)⟩
theorem lw_p39 : lw_okq (⟨"SignalTable$Open", "renewMemory", "()V"⟩, 14) := ⟨⟨by decide +kernel, by decide +kernel⟩, List.mem_of_getElem? (i := 363) (by decide +kernel), List.mem_of_getElem? (i := 1041) (by decide +kernel), List.mem_of_getElem? (i := 1042) (by decide +kernel)⟩
theorem lw_p40 : lw_okq (⟨"SignalTable$Open", "standing", "()I"⟩, 14) := ⟨⟨by decide +kernel, by decide +kernel⟩, List.mem_of_getElem? (i := 363) (by decide +kernel), List.mem_of_getElem? (i := 1046) (by decide +kernel), List.mem_of_getElem? (i := 1047) (by decide +kernel)⟩
theorem lw_p41 : lw_okq (⟨"SignalTable$Open", "between", "(III)I"⟩, 14) := ⟨⟨by decide +kernel, by decide +kernel⟩, List.mem_of_getElem? (i := 363) (by decide +kernel), List.mem_of_getElem? (i := 1050) (by decide +kernel), List.mem_of_getElem? (i := 1051) (by decide +kernel)⟩
theorem lw_p42 : lw_okq (⟨"SignalTable$Open", "lastTrick", "(I)I"⟩, 14) := ⟨⟨by decide +kernel, by decide +kernel⟩, List.mem_of_getElem? (i := 363) (by decide +kernel), List.mem_of_getElem? (i := 1054) (by decide +kernel), List.mem_of_getElem? (i := 1055) (by decide +kernel)⟩
theorem lw_p43 : lw_okq (⟨"SignalTable$Open", "best", "(IIII)I"⟩, 14) := ⟨⟨by decide +kernel, by decide +kernel⟩, List.mem_of_getElem? (i := 363) (by decide +kernel), List.mem_of_getElem? (i := 1059) (by decide +kernel), List.mem_of_getElem? (i := 1060) (by decide +kernel)⟩
theorem lw_p44 : lw_okq (⟨"SignalTable$Open", "legal", "(II)I"⟩, 14) := ⟨⟨by decide +kernel, by decide +kernel⟩, List.mem_of_getElem? (i := 363) (by decide +kernel), List.mem_of_getElem? (i := 1063) (by decide +kernel), List.mem_of_getElem? (i := 1064) (by decide +kernel)⟩
theorem lw_p45 : lw_okq (⟨"SignalTable$Open", "laying", "(IIIII)I"⟩, 14) := ⟨⟨by decide +kernel, by decide +kernel⟩, List.mem_of_getElem? (i := 363) (by decide +kernel), List.mem_of_getElem? (i := 1068) (by decide +kernel), List.mem_of_getElem? (i := 1069) (by decide +kernel)⟩
theorem lw_p46 : lw_okq (⟨"SignalTable$Open", "joined", "(III)I"⟩, 14) := ⟨⟨by decide +kernel, by decide +kernel⟩, List.mem_of_getElem? (i := 363) (by decide +kernel), List.mem_of_getElem? (i := 1072) (by decide +kernel), List.mem_of_getElem? (i := 1073) (by decide +kernel)⟩
theorem lw_p47 : lw_okq (⟨"SignalTable$Open", "slotOf", "(I)I"⟩, 14) := ⟨⟨by decide +kernel, by decide +kernel⟩, List.mem_of_getElem? (i := 363) (by decide +kernel), List.mem_of_getElem? (i := 1078) (by decide +kernel), List.mem_of_getElem? (i := 1079) (by decide +kernel)⟩
def lw_privs_3 : List (MethodName × Nat) := [(⟨"SignalTable", "look", "(III)V"⟩, 14), (⟨"SignalTable$Deals", "fits", "(LSignalTable$Game;IIII)Z"⟩, 13), (⟨"SignalTable$Deals", "note", "(II)V"⟩, 13), (⟨"SignalTable$Deals", "isFitting", "(II)Z"⟩, 13), (⟨"SignalTable$Deals", "ways", "(III)I"⟩, 13), (⟨"SignalTable$Deals", "isSure", "(III)Z"⟩, 13), (⟨"SignalTable$Open", "standRemembering", "(LSignalTable$Game;)V"⟩, 14), (⟨"SignalTable$Open", "renewMemory", "()V"⟩, 14), (⟨"SignalTable$Open", "standing", "()I"⟩, 14), (⟨"SignalTable$Open", "between", "(III)I"⟩, 14), (⟨"SignalTable$Open", "lastTrick", "(I)I"⟩, 14), (⟨"SignalTable$Open", "best", "(IIII)I"⟩, 14), (⟨"SignalTable$Open", "legal", "(II)I"⟩, 14), (⟨"SignalTable$Open", "laying", "(IIIII)I"⟩, 14), (⟨"SignalTable$Open", "joined", "(III)I"⟩, 14), (⟨"SignalTable$Open", "slotOf", "(I)I"⟩, 14)]
theorem lw_r3 : ∀ q ∈ lw_privs_3, lw_okq q := List.forall_mem_cons.mpr ⟨lw_p32, List.forall_mem_cons.mpr ⟨lw_p33, List.forall_mem_cons.mpr ⟨lw_p34, List.forall_mem_cons.mpr ⟨lw_p35, List.forall_mem_cons.mpr ⟨lw_p36, List.forall_mem_cons.mpr ⟨lw_p37, List.forall_mem_cons.mpr ⟨lw_p38, List.forall_mem_cons.mpr ⟨lw_p39, List.forall_mem_cons.mpr ⟨lw_p40, List.forall_mem_cons.mpr ⟨lw_p41, List.forall_mem_cons.mpr ⟨lw_p42, List.forall_mem_cons.mpr ⟨lw_p43, List.forall_mem_cons.mpr ⟨lw_p44, List.forall_mem_cons.mpr ⟨lw_p45, List.forall_mem_cons.mpr ⟨lw_p46, List.forall_mem_cons.mpr ⟨lw_p47, fun _ h => absurd h List.not_mem_nil⟩⟩⟩⟩⟩⟩⟩⟩⟩⟩⟩⟩⟩⟩⟩⟩
theorem lw_p48 : lw_okq (⟨"SignalTable$Open", "findLine", "(LSignalTable$Game;)V"⟩, 14) := ⟨⟨by decide +kernel, by decide +kernel⟩, List.mem_of_getElem? (i := 363) (by decide +kernel), List.mem_of_getElem? (i := 1091) (by decide +kernel), List.mem_of_getElem? (i := 1092) (by decide +kernel)⟩
theorem lw_p49 : lw_okq (⟨"SignalTable$Open", "leastReaching", "(I)I"⟩, 14) := ⟨⟨by decide +kernel, by decide +kernel⟩, List.mem_of_getElem? (i := 363) (by decide +kernel), List.mem_of_getElem? (i := 1095) (by decide +kernel), List.mem_of_getElem? (i := 1096) (by decide +kernel)⟩
theorem lw_p50 : lw_okq (⟨"SignalTable", "refusal", "(I)I"⟩, 14) := ⟨⟨by decide +kernel, by decide +kernel⟩, List.mem_of_getElem? (i := 22) (by decide +kernel), List.mem_of_getElem? (i := 1107) (by decide +kernel), List.mem_of_getElem? (i := 1108) (by decide +kernel)⟩
theorem lw_p51 : lw_okq (⟨"SignalTable", "mayPut", "(I)Z"⟩, 14) := ⟨⟨by decide +kernel, by decide +kernel⟩, List.mem_of_getElem? (i := 22) (by decide +kernel), List.mem_of_getElem? (i := 1111) (by decide +kernel), List.mem_of_getElem? (i := 1112) (by decide +kernel)⟩
theorem lw_p52 : lw_okq (⟨"SignalTable$Weigher", "known", "(LSignalTable$Game;I)I"⟩, 7) := ⟨⟨by decide +kernel, by decide +kernel⟩, List.mem_of_getElem? (i := 465) (by decide +kernel), List.mem_of_getElem? (i := 1124) (by decide +kernel), List.mem_of_getElem? (i := 1125) (by decide +kernel)⟩
theorem lw_p53 : lw_okq (⟨"SignalTable$Weigher", "enter", "(II)V"⟩, 7) := ⟨⟨by decide +kernel, by decide +kernel⟩, List.mem_of_getElem? (i := 465) (by decide +kernel), List.mem_of_getElem? (i := 1136) (by decide +kernel), List.mem_of_getElem? (i := 1137) (by decide +kernel)⟩
theorem lw_p54 : lw_okq (⟨"SignalTable$Weigher", "isSafer", "(II)Z"⟩, 7) := ⟨⟨by decide +kernel, by decide +kernel⟩, List.mem_of_getElem? (i := 465) (by decide +kernel), List.mem_of_getElem? (i := 1176) (by decide +kernel), List.mem_of_getElem? (i := 1177) (by decide +kernel)⟩
theorem lw_p55 : lw_okq (⟨"SignalTable", "canGain", "(I)Z"⟩, 14) := ⟨⟨by decide +kernel, by decide +kernel⟩, List.mem_of_getElem? (i := 22) (by decide +kernel), List.mem_of_getElem? (i := 1227) (by decide +kernel), List.mem_of_getElem? (i := 1228) (by decide +kernel)⟩
theorem lw_p56 : lw_okq (⟨"SignalTable$Gains", "pick", "(I)I"⟩, 3) := ⟨⟨by decide +kernel, by decide +kernel⟩, List.mem_of_getElem? (i := 493) (by decide +kernel), List.mem_of_getElem? (i := 1236) (by decide +kernel), List.mem_of_getElem? (i := 1237) (by decide +kernel)⟩
theorem lw_p57 : lw_okq (⟨"SignalTable$Gains", "question", "(II)I"⟩, 3) := ⟨⟨by decide +kernel, by decide +kernel⟩, List.mem_of_getElem? (i := 493) (by decide +kernel), List.mem_of_getElem? (i := 1245) (by decide +kernel), List.mem_of_getElem? (i := 1246) (by decide +kernel)⟩
theorem lw_p58 : lw_okq (⟨"SignalTable", "isCustom", "(I)Z"⟩, 14) := ⟨⟨by decide +kernel, by decide +kernel⟩, List.mem_of_getElem? (i := 22) (by decide +kernel), List.mem_of_getElem? (i := 1285) (by decide +kernel), List.mem_of_getElem? (i := 1286) (by decide +kernel)⟩
theorem lw_p59 : lw_okq (⟨"SignalTable$Openings", "appliesTo", "(II)Z"⟩, 2) := ⟨⟨by decide +kernel, by decide +kernel⟩, List.mem_of_getElem? (i := 526) (by decide +kernel), List.mem_of_getElem? (i := 1301) (by decide +kernel), List.mem_of_getElem? (i := 1302) (by decide +kernel)⟩
theorem lw_p60 : lw_okq (⟨"SignalTable$Openings", "handsWithOneCard", "()I"⟩, 2) := ⟨⟨by decide +kernel, by decide +kernel⟩, List.mem_of_getElem? (i := 526) (by decide +kernel), List.mem_of_getElem? (i := 1307) (by decide +kernel), List.mem_of_getElem? (i := 1308) (by decide +kernel)⟩
theorem lw_p61 : lw_okq (⟨"SignalTable", "slotsInUse", "()I"⟩, 14) := ⟨⟨by decide +kernel, by decide +kernel⟩, List.mem_of_getElem? (i := 22) (by decide +kernel), List.mem_of_getElem? (i := 1344) (by decide +kernel), List.mem_of_getElem? (i := 1345) (by decide +kernel)⟩
theorem lw_p62 : lw_okq (⟨"SignalTableModel", "put", "(I)V"⟩, 95) := ⟨⟨by decide +kernel, by decide +kernel⟩, List.mem_of_getElem? (i := 1348) (by decide +kernel), List.mem_of_getElem? (i := 1653) (by decide +kernel), List.mem_of_getElem? (i := 1654) (by decide +kernel)⟩
theorem lw_p63 : lw_okq (⟨"SignalTableModel", "cut", "()V"⟩, 95) := ⟨⟨by decide +kernel, by decide +kernel⟩, List.mem_of_getElem? (i := 1348) (by decide +kernel), List.mem_of_getElem? (i := 1665) (by decide +kernel), List.mem_of_getElem? (i := 1666) (by decide +kernel)⟩
def lw_privs_4 : List (MethodName × Nat) := [(⟨"SignalTable$Open", "findLine", "(LSignalTable$Game;)V"⟩, 14), (⟨"SignalTable$Open", "leastReaching", "(I)I"⟩, 14), (⟨"SignalTable", "refusal", "(I)I"⟩, 14), (⟨"SignalTable", "mayPut", "(I)Z"⟩, 14), (⟨"SignalTable$Weigher", "known", "(LSignalTable$Game;I)I"⟩, 7), (⟨"SignalTable$Weigher", "enter", "(II)V"⟩, 7), (⟨"SignalTable$Weigher", "isSafer", "(II)Z"⟩, 7), (⟨"SignalTable", "canGain", "(I)Z"⟩, 14), (⟨"SignalTable$Gains", "pick", "(I)I"⟩, 3), (⟨"SignalTable$Gains", "question", "(II)I"⟩, 3), (⟨"SignalTable", "isCustom", "(I)Z"⟩, 14), (⟨"SignalTable$Openings", "appliesTo", "(II)Z"⟩, 2), (⟨"SignalTable$Openings", "handsWithOneCard", "()I"⟩, 2), (⟨"SignalTable", "slotsInUse", "()I"⟩, 14), (⟨"SignalTableModel", "put", "(I)V"⟩, 95), (⟨"SignalTableModel", "cut", "()V"⟩, 95)]
theorem lw_r4 : ∀ q ∈ lw_privs_4, lw_okq q := List.forall_mem_cons.mpr ⟨lw_p48, List.forall_mem_cons.mpr ⟨lw_p49, List.forall_mem_cons.mpr ⟨lw_p50, List.forall_mem_cons.mpr ⟨lw_p51, List.forall_mem_cons.mpr ⟨lw_p52, List.forall_mem_cons.mpr ⟨lw_p53, List.forall_mem_cons.mpr ⟨lw_p54, List.forall_mem_cons.mpr ⟨lw_p55, List.forall_mem_cons.mpr ⟨lw_p56, List.forall_mem_cons.mpr ⟨lw_p57, List.forall_mem_cons.mpr ⟨lw_p58, List.forall_mem_cons.mpr ⟨lw_p59, List.forall_mem_cons.mpr ⟨lw_p60, List.forall_mem_cons.mpr ⟨lw_p61, List.forall_mem_cons.mpr ⟨lw_p62, List.forall_mem_cons.mpr ⟨lw_p63, fun _ h => absurd h List.not_mem_nil⟩⟩⟩⟩⟩⟩⟩⟩⟩⟩⟩⟩⟩⟩⟩⟩
theorem lw_p64 : lw_okq (⟨"SignalTableModel", "byteAt", "(I)I"⟩, 95) := ⟨⟨by decide +kernel, by decide +kernel⟩, List.mem_of_getElem? (i := 1348) (by decide +kernel), List.mem_of_getElem? (i := 1669) (by decide +kernel), List.mem_of_getElem? (i := 1670) (by decide +kernel)⟩
theorem lw_p65 : lw_okq (⟨"SignalTableModel", "token", "(IIIJ)V"⟩, 95) := ⟨⟨by decide +kernel, by decide +kernel⟩, List.mem_of_getElem? (i := 1348) (by decide +kernel), List.mem_of_getElem? (i := 1673) (by decide +kernel), List.mem_of_getElem? (i := 1674) (by decide +kernel)⟩
theorem lw_p66 : lw_okq (⟨"SignalTableModel", "sign", "(III)I"⟩, 95) := ⟨⟨by decide +kernel, by decide +kernel⟩, List.mem_of_getElem? (i := 1348) (by decide +kernel), List.mem_of_getElem? (i := 1683) (by decide +kernel), List.mem_of_getElem? (i := 1684) (by decide +kernel)⟩
theorem lw_p67 : lw_okq (⟨"SignalTableModel", "is", "(I)Z"⟩, 95) := ⟨⟨by decide +kernel, by decide +kernel⟩, List.mem_of_getElem? (i := 1348) (by decide +kernel), List.mem_of_getElem? (i := 1687) (by decide +kernel), List.mem_of_getElem? (i := 1688) (by decide +kernel)⟩
theorem lw_p68 : lw_okq (⟨"SignalTableModel", "tell", "()V"⟩, 95) := ⟨⟨by decide +kernel, by decide +kernel⟩, List.mem_of_getElem? (i := 1348) (by decide +kernel), List.mem_of_getElem? (i := 1691) (by decide +kernel), List.mem_of_getElem? (i := 1692) (by decide +kernel)⟩
theorem lw_p69 : lw_okq (⟨"SignalTableModel", "goesOn", "()V"⟩, 95) := ⟨⟨by decide +kernel, by decide +kernel⟩, List.mem_of_getElem? (i := 1348) (by decide +kernel), List.mem_of_getElem? (i := 1695) (by decide +kernel), List.mem_of_getElem? (i := 1696) (by decide +kernel)⟩
theorem lw_p70 : lw_okq (⟨"SignalTableModel", "fail", "(I)V"⟩, 95) := ⟨⟨by decide +kernel, by decide +kernel⟩, List.mem_of_getElem? (i := 1348) (by decide +kernel), List.mem_of_getElem? (i := 1699) (by decide +kernel), List.mem_of_getElem? (i := 1700) (by decide +kernel)⟩
theorem lw_p71 : lw_okq (⟨"SignalTableModel", "bounded", "(II)I"⟩, 95) := ⟨⟨by decide +kernel, by decide +kernel⟩, List.mem_of_getElem? (i := 1348) (by decide +kernel), List.mem_of_getElem? (i := 1703) (by decide +kernel), List.mem_of_getElem? (i := 1704) (by decide +kernel)⟩
theorem lw_p72 : lw_okq (⟨"SignalTableModel", "wrong", "(II)V"⟩, 95) := ⟨⟨by decide +kernel, by decide +kernel⟩, List.mem_of_getElem? (i := 1348) (by decide +kernel), List.mem_of_getElem? (i := 1707) (by decide +kernel), List.mem_of_getElem? (i := 1708) (by decide +kernel)⟩
theorem lw_p73 : lw_okq (⟨"SignalTableModel", "must", "(I)V"⟩, 95) := ⟨⟨by decide +kernel, by decide +kernel⟩, List.mem_of_getElem? (i := 1348) (by decide +kernel), List.mem_of_getElem? (i := 1714) (by decide +kernel), List.mem_of_getElem? (i := 1715) (by decide +kernel)⟩
theorem lw_p74 : lw_okq (⟨"SignalTableModel", "tellCustom", "()V"⟩, 95) := ⟨⟨by decide +kernel, by decide +kernel⟩, List.mem_of_getElem? (i := 1348) (by decide +kernel), List.mem_of_getElem? (i := 1718) (by decide +kernel), List.mem_of_getElem? (i := 1719) (by decide +kernel)⟩
theorem lw_p75 : lw_okq (⟨"SignalTableModel", "condition", "()V"⟩, 95) := ⟨⟨by decide +kernel, by decide +kernel⟩, List.mem_of_getElem? (i := 1348) (by decide +kernel), List.mem_of_getElem? (i := 1722) (by decide +kernel), List.mem_of_getElem? (i := 1723) (by decide +kernel)⟩
theorem lw_p76 : lw_okq (⟨"SignalTableModel", "literal", "(Z)V"⟩, 95) := ⟨⟨by decide +kernel, by decide +kernel⟩, List.mem_of_getElem? (i := 1348) (by decide +kernel), List.mem_of_getElem? (i := 1726) (by decide +kernel), List.mem_of_getElem? (i := 1727) (by decide +kernel)⟩
theorem lw_p77 : lw_okq (⟨"SignalTableModel", "expression", "()V"⟩, 95) := ⟨⟨by decide +kernel, by decide +kernel⟩, List.mem_of_getElem? (i := 1348) (by decide +kernel), List.mem_of_getElem? (i := 1730) (by decide +kernel), List.mem_of_getElem? (i := 1731) (by decide +kernel)⟩
theorem lw_p78 : lw_okq (⟨"SignalTableModel", "unit", "()V"⟩, 95) := ⟨⟨by decide +kernel, by decide +kernel⟩, List.mem_of_getElem? (i := 1348) (by decide +kernel), List.mem_of_getElem? (i := 1734) (by decide +kernel), List.mem_of_getElem? (i := 1735) (by decide +kernel)⟩
theorem lw_p79 : lw_okq (⟨"SignalTableModel", "emit", "(II)V"⟩, 95) := ⟨⟨by decide +kernel, by decide +kernel⟩, List.mem_of_getElem? (i := 1348) (by decide +kernel), List.mem_of_getElem? (i := 1738) (by decide +kernel), List.mem_of_getElem? (i := 1739) (by decide +kernel)⟩
def lw_privs_5 : List (MethodName × Nat) := [(⟨"SignalTableModel", "byteAt", "(I)I"⟩, 95), (⟨"SignalTableModel", "token", "(IIIJ)V"⟩, 95), (⟨"SignalTableModel", "sign", "(III)I"⟩, 95), (⟨"SignalTableModel", "is", "(I)Z"⟩, 95), (⟨"SignalTableModel", "tell", "()V"⟩, 95), (⟨"SignalTableModel", "goesOn", "()V"⟩, 95), (⟨"SignalTableModel", "fail", "(I)V"⟩, 95), (⟨"SignalTableModel", "bounded", "(II)I"⟩, 95), (⟨"SignalTableModel", "wrong", "(II)V"⟩, 95), (⟨"SignalTableModel", "must", "(I)V"⟩, 95), (⟨"SignalTableModel", "tellCustom", "()V"⟩, 95), (⟨"SignalTableModel", "condition", "()V"⟩, 95), (⟨"SignalTableModel", "literal", "(Z)V"⟩, 95), (⟨"SignalTableModel", "expression", "()V"⟩, 95), (⟨"SignalTableModel", "unit", "()V"⟩, 95), (⟨"SignalTableModel", "emit", "(II)V"⟩, 95)]
theorem lw_r5 : ∀ q ∈ lw_privs_5, lw_okq q := List.forall_mem_cons.mpr ⟨lw_p64, List.forall_mem_cons.mpr ⟨lw_p65, List.forall_mem_cons.mpr ⟨lw_p66, List.forall_mem_cons.mpr ⟨lw_p67, List.forall_mem_cons.mpr ⟨lw_p68, List.forall_mem_cons.mpr ⟨lw_p69, List.forall_mem_cons.mpr ⟨lw_p70, List.forall_mem_cons.mpr ⟨lw_p71, List.forall_mem_cons.mpr ⟨lw_p72, List.forall_mem_cons.mpr ⟨lw_p73, List.forall_mem_cons.mpr ⟨lw_p74, List.forall_mem_cons.mpr ⟨lw_p75, List.forall_mem_cons.mpr ⟨lw_p76, List.forall_mem_cons.mpr ⟨lw_p77, List.forall_mem_cons.mpr ⟨lw_p78, List.forall_mem_cons.mpr ⟨lw_p79, fun _ h => absurd h List.not_mem_nil⟩⟩⟩⟩⟩⟩⟩⟩⟩⟩⟩⟩⟩⟩⟩⟩
theorem lw_p80 : lw_okq (⟨"SignalTableModel", "comesOut", "(Z)V"⟩, 95) := ⟨⟨by decide +kernel, by decide +kernel⟩, List.mem_of_getElem? (i := 1348) (by decide +kernel), List.mem_of_getElem? (i := 1742) (by decide +kernel), List.mem_of_getElem? (i := 1743) (by decide +kernel)⟩
theorem lw_p81 : lw_okq (⟨"SignalTableModel", "cards", "()I"⟩, 95) := ⟨⟨by decide +kernel, by decide +kernel⟩, List.mem_of_getElem? (i := 1348) (by decide +kernel), List.mem_of_getElem? (i := 1754) (by decide +kernel), List.mem_of_getElem? (i := 1755) (by decide +kernel)⟩
theorem lw_p82 : lw_okq (⟨"SignalTableModel", "handSize", "()I"⟩, 95) := ⟨⟨by decide +kernel, by decide +kernel⟩, List.mem_of_getElem? (i := 1348) (by decide +kernel), List.mem_of_getElem? (i := 1765) (by decide +kernel), List.mem_of_getElem? (i := 1766) (by decide +kernel)⟩
theorem lw_p83 : lw_okq (⟨"SignalTableModel", "starts", "()V"⟩, 95) := ⟨⟨by decide +kernel, by decide +kernel⟩, List.mem_of_getElem? (i := 1348) (by decide +kernel), List.mem_of_getElem? (i := 1769) (by decide +kernel), List.mem_of_getElem? (i := 1770) (by decide +kernel)⟩
theorem lw_p84 : lw_okq (⟨"SignalTableModel", "handNow", "(I)I"⟩, 95) := ⟨⟨by decide +kernel, by decide +kernel⟩, List.mem_of_getElem? (i := 1348) (by decide +kernel), List.mem_of_getElem? (i := 1791) (by decide +kernel), List.mem_of_getElem? (i := 1792) (by decide +kernel)⟩
theorem lw_p85 : lw_okq (⟨"SignalTableModel", "playedBy", "(II)I"⟩, 95) := ⟨⟨by decide +kernel, by decide +kernel⟩, List.mem_of_getElem? (i := 1348) (by decide +kernel), List.mem_of_getElem? (i := 1795) (by decide +kernel), List.mem_of_getElem? (i := 1796) (by decide +kernel)⟩
theorem lw_p86 : lw_okq (⟨"SignalTableModel", "turnNow", "()I"⟩, 95) := ⟨⟨by decide +kernel, by decide +kernel⟩, List.mem_of_getElem? (i := 1348) (by decide +kernel), List.mem_of_getElem? (i := 1803) (by decide +kernel), List.mem_of_getElem? (i := 1804) (by decide +kernel)⟩
theorem lw_p87 : lw_okq (⟨"SignalTableModel", "winnerOf", "(I)I"⟩, 95) := ⟨⟨by decide +kernel, by decide +kernel⟩, List.mem_of_getElem? (i := 1348) (by decide +kernel), List.mem_of_getElem? (i := 1807) (by decide +kernel), List.mem_of_getElem? (i := 1808) (by decide +kernel)⟩
theorem lw_p88 : lw_okq (⟨"SignalTableModel", "beats", "(II)Z"⟩, 95) := ⟨⟨by decide +kernel, by decide +kernel⟩, List.mem_of_getElem? (i := 1348) (by decide +kernel), List.mem_of_getElem? (i := 1811) (by decide +kernel), List.mem_of_getElem? (i := 1812) (by decide +kernel)⟩
theorem lw_p89 : lw_okq (⟨"SignalTableModel", "suitOf", "(I)I"⟩, 95) := ⟨⟨by decide +kernel, by decide +kernel⟩, List.mem_of_getElem? (i := 1348) (by decide +kernel), List.mem_of_getElem? (i := 1815) (by decide +kernel), List.mem_of_getElem? (i := 1816) (by decide +kernel)⟩
theorem lw_p90 : lw_okq (⟨"SignalTableModel", "trumpSuit", "()I"⟩, 95) := ⟨⟨by decide +kernel, by decide +kernel⟩, List.mem_of_getElem? (i := 1348) (by decide +kernel), List.mem_of_getElem? (i := 1819) (by decide +kernel), List.mem_of_getElem? (i := 1820) (by decide +kernel)⟩
theorem lw_p91 : lw_okq (⟨"SignalTableModel", "mayNow", "()I"⟩, 95) := ⟨⟨by decide +kernel, by decide +kernel⟩, List.mem_of_getElem? (i := 1348) (by decide +kernel), List.mem_of_getElem? (i := 1827) (by decide +kernel), List.mem_of_getElem? (i := 1828) (by decide +kernel)⟩
theorem lw_p92 : lw_okq (⟨"SignalTableModel", "ledAt", "(I)I"⟩, 95) := ⟨⟨by decide +kernel, by decide +kernel⟩, List.mem_of_getElem? (i := 1348) (by decide +kernel), List.mem_of_getElem? (i := 1831) (by decide +kernel), List.mem_of_getElem? (i := 1832) (by decide +kernel)⟩
theorem lw_p93 : lw_okq (⟨"SignalTableModel", "suitCards", "(I)I"⟩, 95) := ⟨⟨by decide +kernel, by decide +kernel⟩, List.mem_of_getElem? (i := 1348) (by decide +kernel), List.mem_of_getElem? (i := 1835) (by decide +kernel), List.mem_of_getElem? (i := 1836) (by decide +kernel)⟩
theorem lw_p94 : lw_okq (⟨"SignalTableModel", "canPlay", "(I)Z"⟩, 95) := ⟨⟨by decide +kernel, by decide +kernel⟩, List.mem_of_getElem? (i := 1348) (by decide +kernel), List.mem_of_getElem? (i := 1843) (by decide +kernel), List.mem_of_getElem? (i := 1844) (by decide +kernel)⟩
theorem lw_p95 : lw_okq (⟨"SignalTableModel", "isCard", "(I)Z"⟩, 95) := ⟨⟨by decide +kernel, by decide +kernel⟩, List.mem_of_getElem? (i := 1348) (by decide +kernel), List.mem_of_getElem? (i := 1847) (by decide +kernel), List.mem_of_getElem? (i := 1848) (by decide +kernel)⟩
def lw_privs_6 : List (MethodName × Nat) := [(⟨"SignalTableModel", "comesOut", "(Z)V"⟩, 95), (⟨"SignalTableModel", "cards", "()I"⟩, 95), (⟨"SignalTableModel", "handSize", "()I"⟩, 95), (⟨"SignalTableModel", "starts", "()V"⟩, 95), (⟨"SignalTableModel", "handNow", "(I)I"⟩, 95), (⟨"SignalTableModel", "playedBy", "(II)I"⟩, 95), (⟨"SignalTableModel", "turnNow", "()I"⟩, 95), (⟨"SignalTableModel", "winnerOf", "(I)I"⟩, 95), (⟨"SignalTableModel", "beats", "(II)Z"⟩, 95), (⟨"SignalTableModel", "suitOf", "(I)I"⟩, 95), (⟨"SignalTableModel", "trumpSuit", "()I"⟩, 95), (⟨"SignalTableModel", "mayNow", "()I"⟩, 95), (⟨"SignalTableModel", "ledAt", "(I)I"⟩, 95), (⟨"SignalTableModel", "suitCards", "(I)I"⟩, 95), (⟨"SignalTableModel", "canPlay", "(I)Z"⟩, 95), (⟨"SignalTableModel", "isCard", "(I)Z"⟩, 95)]
theorem lw_r6 : ∀ q ∈ lw_privs_6, lw_okq q := List.forall_mem_cons.mpr ⟨lw_p80, List.forall_mem_cons.mpr ⟨lw_p81, List.forall_mem_cons.mpr ⟨lw_p82, List.forall_mem_cons.mpr ⟨lw_p83, List.forall_mem_cons.mpr ⟨lw_p84, List.forall_mem_cons.mpr ⟨lw_p85, List.forall_mem_cons.mpr ⟨lw_p86, List.forall_mem_cons.mpr ⟨lw_p87, List.forall_mem_cons.mpr ⟨lw_p88, List.forall_mem_cons.mpr ⟨lw_p89, List.forall_mem_cons.mpr ⟨lw_p90, List.forall_mem_cons.mpr ⟨lw_p91, List.forall_mem_cons.mpr ⟨lw_p92, List.forall_mem_cons.mpr ⟨lw_p93, List.forall_mem_cons.mpr ⟨lw_p94, List.forall_mem_cons.mpr ⟨lw_p95, fun _ h => absurd h List.not_mem_nil⟩⟩⟩⟩⟩⟩⟩⟩⟩⟩⟩⟩⟩⟩⟩⟩
theorem lw_p96 : lw_okq (⟨"SignalTableModel", "plays", "(II)I"⟩, 95) := ⟨⟨by decide +kernel, by decide +kernel⟩, List.mem_of_getElem? (i := 1348) (by decide +kernel), List.mem_of_getElem? (i := 1851) (by decide +kernel), List.mem_of_getElem? (i := 1852) (by decide +kernel)⟩
theorem lw_p97 : lw_okq (⟨"SignalTableModel", "kindAt", "(I)I"⟩, 95) := ⟨⟨by decide +kernel, by decide +kernel⟩, List.mem_of_getElem? (i := 1348) (by decide +kernel), List.mem_of_getElem? (i := 1867) (by decide +kernel), List.mem_of_getElem? (i := 1868) (by decide +kernel)⟩
theorem lw_p98 : lw_okq (⟨"SignalTableModel", "beforeAt", "(I)I"⟩, 95) := ⟨⟨by decide +kernel, by decide +kernel⟩, List.mem_of_getElem? (i := 1348) (by decide +kernel), List.mem_of_getElem? (i := 1871) (by decide +kernel), List.mem_of_getElem? (i := 1872) (by decide +kernel)⟩
theorem lw_p99 : lw_okq (⟨"SignalTableModel", "rankOf", "(I)I"⟩, 95) := ⟨⟨by decide +kernel, by decide +kernel⟩, List.mem_of_getElem? (i := 1348) (by decide +kernel), List.mem_of_getElem? (i := 1875) (by decide +kernel), List.mem_of_getElem? (i := 1876) (by decide +kernel)⟩
theorem lw_p100 : lw_okq (⟨"SignalTableModel", "revokesAt", "(I)Z"⟩, 95) := ⟨⟨by decide +kernel, by decide +kernel⟩, List.mem_of_getElem? (i := 1348) (by decide +kernel), List.mem_of_getElem? (i := 1879) (by decide +kernel), List.mem_of_getElem? (i := 1880) (by decide +kernel)⟩
theorem lw_p101 : lw_okq (⟨"SignalTableModel", "showsAt", "(I)I"⟩, 95) := ⟨⟨by decide +kernel, by decide +kernel⟩, List.mem_of_getElem? (i := 1348) (by decide +kernel), List.mem_of_getElem? (i := 1883) (by decide +kernel), List.mem_of_getElem? (i := 1884) (by decide +kernel)⟩
theorem lw_p102 : lw_okq (⟨"SignalTableModel", "areCustoms", "(I)Z"⟩, 95) := ⟨⟨by decide +kernel, by decide +kernel⟩, List.mem_of_getElem? (i := 1348) (by decide +kernel), List.mem_of_getElem? (i := 1903) (by decide +kernel), List.mem_of_getElem? (i := 1904) (by decide +kernel)⟩
theorem lw_p103 : lw_okq (⟨"SignalTableModel", "appliesAt", "(II)I"⟩, 95) := ⟨⟨by decide +kernel, by decide +kernel⟩, List.mem_of_getElem? (i := 1348) (by decide +kernel), List.mem_of_getElem? (i := 1907) (by decide +kernel), List.mem_of_getElem? (i := 1908) (by decide +kernel)⟩
theorem lw_p104 : lw_okq (⟨"SignalTableModel", "appliesTo", "(IIIIIII)I"⟩, 95) := ⟨⟨by decide +kernel, by decide +kernel⟩, List.mem_of_getElem? (i := 1348) (by decide +kernel), List.mem_of_getElem? (i := 1911) (by decide +kernel), List.mem_of_getElem? (i := 1912) (by decide +kernel)⟩
theorem lw_p105 : lw_okq (⟨"SignalTableModel", "sees", "(IIII)V"⟩, 95) := ⟨⟨by decide +kernel, by decide +kernel⟩, List.mem_of_getElem? (i := 1348) (by decide +kernel), List.mem_of_getElem? (i := 1915) (by decide +kernel), List.mem_of_getElem? (i := 1916) (by decide +kernel)⟩
theorem lw_p106 : lw_okq (⟨"SignalTableModel", "isOf", "(III)Z"⟩, 95) := ⟨⟨by decide +kernel, by decide +kernel⟩, List.mem_of_getElem? (i := 1348) (by decide +kernel), List.mem_of_getElem? (i := 1919) (by decide +kernel), List.mem_of_getElem? (i := 1920) (by decide +kernel)⟩
theorem lw_p107 : lw_okq (⟨"SignalTableModel", "isWhen", "(I)Z"⟩, 95) := ⟨⟨by decide +kernel, by decide +kernel⟩, List.mem_of_getElem? (i := 1348) (by decide +kernel), List.mem_of_getElem? (i := 1923) (by decide +kernel), List.mem_of_getElem? (i := 1924) (by decide +kernel)⟩
theorem lw_p108 : lw_okq (⟨"SignalTableModel", "holdsRule", "(I)Z"⟩, 95) := ⟨⟨by decide +kernel, by decide +kernel⟩, List.mem_of_getElem? (i := 1348) (by decide +kernel), List.mem_of_getElem? (i := 1927) (by decide +kernel), List.mem_of_getElem? (i := 1928) (by decide +kernel)⟩
theorem lw_p109 : lw_okq (⟨"SignalTableModel", "isTrue", "(I)Z"⟩, 95) := ⟨⟨by decide +kernel, by decide +kernel⟩, List.mem_of_getElem? (i := 1348) (by decide +kernel), List.mem_of_getElem? (i := 1931) (by decide +kernel), List.mem_of_getElem? (i := 1932) (by decide +kernel)⟩
theorem lw_p110 : lw_okq (⟨"SignalTableModel", "termOf", "(II)I"⟩, 95) := ⟨⟨by decide +kernel, by decide +kernel⟩, List.mem_of_getElem? (i := 1348) (by decide +kernel), List.mem_of_getElem? (i := 1935) (by decide +kernel), List.mem_of_getElem? (i := 1936) (by decide +kernel)⟩
theorem lw_p111 : lw_okq (⟨"SignalTableModel", "lieOf", "(III)I"⟩, 95) := ⟨⟨by decide +kernel, by decide +kernel⟩, List.mem_of_getElem? (i := 1348) (by decide +kernel), List.mem_of_getElem? (i := 1939) (by decide +kernel), List.mem_of_getElem? (i := 1940) (by decide +kernel)⟩
def lw_privs_7 : List (MethodName × Nat) := [(⟨"SignalTableModel", "plays", "(II)I"⟩, 95), (⟨"SignalTableModel", "kindAt", "(I)I"⟩, 95), (⟨"SignalTableModel", "beforeAt", "(I)I"⟩, 95), (⟨"SignalTableModel", "rankOf", "(I)I"⟩, 95), (⟨"SignalTableModel", "revokesAt", "(I)Z"⟩, 95), (⟨"SignalTableModel", "showsAt", "(I)I"⟩, 95), (⟨"SignalTableModel", "areCustoms", "(I)Z"⟩, 95), (⟨"SignalTableModel", "appliesAt", "(II)I"⟩, 95), (⟨"SignalTableModel", "appliesTo", "(IIIIIII)I"⟩, 95), (⟨"SignalTableModel", "sees", "(IIII)V"⟩, 95), (⟨"SignalTableModel", "isOf", "(III)Z"⟩, 95), (⟨"SignalTableModel", "isWhen", "(I)Z"⟩, 95), (⟨"SignalTableModel", "holdsRule", "(I)Z"⟩, 95), (⟨"SignalTableModel", "isTrue", "(I)Z"⟩, 95), (⟨"SignalTableModel", "termOf", "(II)I"⟩, 95), (⟨"SignalTableModel", "lieOf", "(III)I"⟩, 95)]
theorem lw_r7 : ∀ q ∈ lw_privs_7, lw_okq q := List.forall_mem_cons.mpr ⟨lw_p96, List.forall_mem_cons.mpr ⟨lw_p97, List.forall_mem_cons.mpr ⟨lw_p98, List.forall_mem_cons.mpr ⟨lw_p99, List.forall_mem_cons.mpr ⟨lw_p100, List.forall_mem_cons.mpr ⟨lw_p101, List.forall_mem_cons.mpr ⟨lw_p102, List.forall_mem_cons.mpr ⟨lw_p103, List.forall_mem_cons.mpr ⟨lw_p104, List.forall_mem_cons.mpr ⟨lw_p105, List.forall_mem_cons.mpr ⟨lw_p106, List.forall_mem_cons.mpr ⟨lw_p107, List.forall_mem_cons.mpr ⟨lw_p108, List.forall_mem_cons.mpr ⟨lw_p109, List.forall_mem_cons.mpr ⟨lw_p110, List.forall_mem_cons.mpr ⟨lw_p111, fun _ h => absurd h List.not_mem_nil⟩⟩⟩⟩⟩⟩⟩⟩⟩⟩⟩⟩⟩⟩⟩⟩
theorem lw_p112 : lw_okq (⟨"SignalTableModel", "seesHand", "(II)V"⟩, 95) := ⟨⟨by decide +kernel, by decide +kernel⟩, List.mem_of_getElem? (i := 1348) (by decide +kernel), List.mem_of_getElem? (i := 1943) (by decide +kernel), List.mem_of_getElem? (i := 1944) (by decide +kernel)⟩
theorem lw_p113 : lw_okq (⟨"SignalTableModel", "isTold", "(I)Z"⟩, 95) := ⟨⟨by decide +kernel, by decide +kernel⟩, List.mem_of_getElem? (i := 1348) (by decide +kernel), List.mem_of_getElem? (i := 1947) (by decide +kernel), List.mem_of_getElem? (i := 1948) (by decide +kernel)⟩
theorem lw_p114 : lw_okq (⟨"SignalTableModel", "canAsk", "(II)Z"⟩, 95) := ⟨⟨by decide +kernel, by decide +kernel⟩, List.mem_of_getElem? (i := 1348) (by decide +kernel), List.mem_of_getElem? (i := 1955) (by decide +kernel), List.mem_of_getElem? (i := 1956) (by decide +kernel)⟩
theorem lw_p115 : lw_okq (⟨"SignalTableModel", "countDeals", "(III)I"⟩, 95) := ⟨⟨by decide +kernel, by decide +kernel⟩, List.mem_of_getElem? (i := 1348) (by decide +kernel), List.mem_of_getElem? (i := 1959) (by decide +kernel), List.mem_of_getElem? (i := 1960) (by decide +kernel)⟩
theorem lw_p116 : lw_okq (⟨"SignalTableModel", "beginDeals", "(III)V"⟩, 95) := ⟨⟨by decide +kernel, by decide +kernel⟩, List.mem_of_getElem? (i := 1348) (by decide +kernel), List.mem_of_getElem? (i := 1963) (by decide +kernel), List.mem_of_getElem? (i := 1964) (by decide +kernel)⟩
theorem lw_p117 : lw_okq (⟨"SignalTableModel", "nextDeal", "()Z"⟩, 95) := ⟨⟨by decide +kernel, by decide +kernel⟩, List.mem_of_getElem? (i := 1348) (by decide +kernel), List.mem_of_getElem? (i := 1967) (by decide +kernel), List.mem_of_getElem? (i := 1968) (by decide +kernel)⟩
theorem lw_p118 : lw_okq (⟨"SignalTableModel", "nextSets", "()Z"⟩, 95) := ⟨⟨by decide +kernel, by decide +kernel⟩, List.mem_of_getElem? (i := 1348) (by decide +kernel), List.mem_of_getElem? (i := 1971) (by decide +kernel), List.mem_of_getElem? (i := 1972) (by decide +kernel)⟩
theorem lw_p119 : lw_okq (⟨"SignalTableModel", "nextSecond", "()Z"⟩, 95) := ⟨⟨by decide +kernel, by decide +kernel⟩, List.mem_of_getElem? (i := 1348) (by decide +kernel), List.mem_of_getElem? (i := 1975) (by decide +kernel), List.mem_of_getElem? (i := 1976) (by decide +kernel)⟩
theorem lw_p120 : lw_okq (⟨"SignalTableModel", "nextFirst", "()Z"⟩, 95) := ⟨⟨by decide +kernel, by decide +kernel⟩, List.mem_of_getElem? (i := 1348) (by decide +kernel), List.mem_of_getElem? (i := 1979) (by decide +kernel), List.mem_of_getElem? (i := 1980) (by decide +kernel)⟩
theorem lw_p121 : lw_okq (⟨"SignalTableModel", "fits", "()Z"⟩, 95) := ⟨⟨by decide +kernel, by decide +kernel⟩, List.mem_of_getElem? (i := 1348) (by decide +kernel), List.mem_of_getElem? (i := 1983) (by decide +kernel), List.mem_of_getElem? (i := 1984) (by decide +kernel)⟩
theorem lw_p122 : lw_okq (⟨"SignalTableModel", "sureOf", "(III)I"⟩, 95) := ⟨⟨by decide +kernel, by decide +kernel⟩, List.mem_of_getElem? (i := 1348) (by decide +kernel), List.mem_of_getElem? (i := 1999) (by decide +kernel), List.mem_of_getElem? (i := 2000) (by decide +kernel)⟩
theorem lw_p123 : lw_okq (⟨"SignalTableModel", "hasMore", "()Z"⟩, 95) := ⟨⟨by decide +kernel, by decide +kernel⟩, List.mem_of_getElem? (i := 1348) (by decide +kernel), List.mem_of_getElem? (i := 2007) (by decide +kernel), List.mem_of_getElem? (i := 2008) (by decide +kernel)⟩
theorem lw_p124 : lw_okq (⟨"SignalTableModel", "openNow", "()I"⟩, 95) := ⟨⟨by decide +kernel, by decide +kernel⟩, List.mem_of_getElem? (i := 1348) (by decide +kernel), List.mem_of_getElem? (i := 2015) (by decide +kernel), List.mem_of_getElem? (i := 2016) (by decide +kernel)⟩
theorem lw_p125 : lw_okq (⟨"SignalTableModel", "setsOutReal", "()V"⟩, 95) := ⟨⟨by decide +kernel, by decide +kernel⟩, List.mem_of_getElem? (i := 1348) (by decide +kernel), List.mem_of_getElem? (i := 2019) (by decide +kernel), List.mem_of_getElem? (i := 2020) (by decide +kernel)⟩
theorem lw_p126 : lw_okq (⟨"SignalTableModel", "setsOut", "()V"⟩, 95) := ⟨⟨by decide +kernel, by decide +kernel⟩, List.mem_of_getElem? (i := 1348) (by decide +kernel), List.mem_of_getElem? (i := 2023) (by decide +kernel), List.mem_of_getElem? (i := 2024) (by decide +kernel)⟩
theorem lw_p127 : lw_okq (⟨"SignalTableModel", "takesHand", "(II)V"⟩, 95) := ⟨⟨by decide +kernel, by decide +kernel⟩, List.mem_of_getElem? (i := 1348) (by decide +kernel), List.mem_of_getElem? (i := 2027) (by decide +kernel), List.mem_of_getElem? (i := 2028) (by decide +kernel)⟩
def lw_privs_8 : List (MethodName × Nat) := [(⟨"SignalTableModel", "seesHand", "(II)V"⟩, 95), (⟨"SignalTableModel", "isTold", "(I)Z"⟩, 95), (⟨"SignalTableModel", "canAsk", "(II)Z"⟩, 95), (⟨"SignalTableModel", "countDeals", "(III)I"⟩, 95), (⟨"SignalTableModel", "beginDeals", "(III)V"⟩, 95), (⟨"SignalTableModel", "nextDeal", "()Z"⟩, 95), (⟨"SignalTableModel", "nextSets", "()Z"⟩, 95), (⟨"SignalTableModel", "nextSecond", "()Z"⟩, 95), (⟨"SignalTableModel", "nextFirst", "()Z"⟩, 95), (⟨"SignalTableModel", "fits", "()Z"⟩, 95), (⟨"SignalTableModel", "sureOf", "(III)I"⟩, 95), (⟨"SignalTableModel", "hasMore", "()Z"⟩, 95), (⟨"SignalTableModel", "openNow", "()I"⟩, 95), (⟨"SignalTableModel", "setsOutReal", "()V"⟩, 95), (⟨"SignalTableModel", "setsOut", "()V"⟩, 95), (⟨"SignalTableModel", "takesHand", "(II)V"⟩, 95)]
theorem lw_r8 : ∀ q ∈ lw_privs_8, lw_okq q := List.forall_mem_cons.mpr ⟨lw_p112, List.forall_mem_cons.mpr ⟨lw_p113, List.forall_mem_cons.mpr ⟨lw_p114, List.forall_mem_cons.mpr ⟨lw_p115, List.forall_mem_cons.mpr ⟨lw_p116, List.forall_mem_cons.mpr ⟨lw_p117, List.forall_mem_cons.mpr ⟨lw_p118, List.forall_mem_cons.mpr ⟨lw_p119, List.forall_mem_cons.mpr ⟨lw_p120, List.forall_mem_cons.mpr ⟨lw_p121, List.forall_mem_cons.mpr ⟨lw_p122, List.forall_mem_cons.mpr ⟨lw_p123, List.forall_mem_cons.mpr ⟨lw_p124, List.forall_mem_cons.mpr ⟨lw_p125, List.forall_mem_cons.mpr ⟨lw_p126, List.forall_mem_cons.mpr ⟨lw_p127, fun _ h => absurd h List.not_mem_nil⟩⟩⟩⟩⟩⟩⟩⟩⟩⟩⟩⟩⟩⟩⟩⟩
theorem lw_p128 : lw_okq (⟨"SignalTableModel", "fillTable", "(I)V"⟩, 95) := ⟨⟨by decide +kernel, by decide +kernel⟩, List.mem_of_getElem? (i := 1348) (by decide +kernel), List.mem_of_getElem? (i := 2031) (by decide +kernel), List.mem_of_getElem? (i := 2032) (by decide +kernel)⟩
theorem lw_p129 : lw_okq (⟨"SignalTableModel", "fillRest", "(III)V"⟩, 95) := ⟨⟨by decide +kernel, by decide +kernel⟩, List.mem_of_getElem? (i := 1348) (by decide +kernel), List.mem_of_getElem? (i := 2035) (by decide +kernel), List.mem_of_getElem? (i := 2036) (by decide +kernel)⟩
theorem lw_p130 : lw_okq (⟨"SignalTableModel", "trick", "(I)I"⟩, 95) := ⟨⟨by decide +kernel, by decide +kernel⟩, List.mem_of_getElem? (i := 1348) (by decide +kernel), List.mem_of_getElem? (i := 2042) (by decide +kernel), List.mem_of_getElem? (i := 2043) (by decide +kernel)⟩
theorem lw_p131 : lw_okq (⟨"SignalTableModel", "nextCard", "(II)Z"⟩, 95) := ⟨⟨by decide +kernel, by decide +kernel⟩, List.mem_of_getElem? (i := 1348) (by decide +kernel), List.mem_of_getElem? (i := 2046) (by decide +kernel), List.mem_of_getElem? (i := 2047) (by decide +kernel)⟩
theorem lw_p132 : lw_okq (⟨"SignalTableModel", "worthBehind", "(I)I"⟩, 95) := ⟨⟨by decide +kernel, by decide +kernel⟩, List.mem_of_getElem? (i := 1348) (by decide +kernel), List.mem_of_getElem? (i := 2050) (by decide +kernel), List.mem_of_getElem? (i := 2051) (by decide +kernel)⟩
theorem lw_p133 : lw_okq (⟨"SignalTableModel", "maskBehind", "(II)I"⟩, 95) := ⟨⟨by decide +kernel, by decide +kernel⟩, List.mem_of_getElem? (i := 1348) (by decide +kernel), List.mem_of_getElem? (i := 2054) (by decide +kernel), List.mem_of_getElem? (i := 2055) (by decide +kernel)⟩
theorem lw_p134 : lw_okq (⟨"SignalTableModel", "takes", "(III)V"⟩, 95) := ⟨⟨by decide +kernel, by decide +kernel⟩, List.mem_of_getElem? (i := 1348) (by decide +kernel), List.mem_of_getElem? (i := 2058) (by decide +kernel), List.mem_of_getElem? (i := 2059) (by decide +kernel)⟩
theorem lw_p135 : lw_okq (⟨"SignalTableModel", "openBehind", "(I)I"⟩, 95) := ⟨⟨by decide +kernel, by decide +kernel⟩, List.mem_of_getElem? (i := 1348) (by decide +kernel), List.mem_of_getElem? (i := 2066) (by decide +kernel), List.mem_of_getElem? (i := 2067) (by decide +kernel)⟩
theorem lw_p136 : lw_okq (⟨"SignalTableModel", "canMean", "(I)Z"⟩, 95) := ⟨⟨by decide +kernel, by decide +kernel⟩, List.mem_of_getElem? (i := 1348) (by decide +kernel), List.mem_of_getElem? (i := 2074) (by decide +kernel), List.mem_of_getElem? (i := 2075) (by decide +kernel)⟩
theorem lw_p137 : lw_okq (⟨"SignalTableModel", "isLate", "()Z"⟩, 95) := ⟨⟨by decide +kernel, by decide +kernel⟩, List.mem_of_getElem? (i := 1348) (by decide +kernel), List.mem_of_getElem? (i := 2079) (by decide +kernel), List.mem_of_getElem? (i := 2080) (by decide +kernel)⟩
theorem lw_p138 : lw_okq (⟨"SignalTableModel", "fillMeans", "(I)V"⟩, 95) := ⟨⟨by decide +kernel, by decide +kernel⟩, List.mem_of_getElem? (i := 1348) (by decide +kernel), List.mem_of_getElem? (i := 2084) (by decide +kernel), List.mem_of_getElem? (i := 2085) (by decide +kernel)⟩
theorem lw_p139 : lw_okq (⟨"SignalTableModel", "tricksLeft", "()I"⟩, 95) := ⟨⟨by decide +kernel, by decide +kernel⟩, List.mem_of_getElem? (i := 1348) (by decide +kernel), List.mem_of_getElem? (i := 2088) (by decide +kernel), List.mem_of_getElem? (i := 2089) (by decide +kernel)⟩
theorem lw_p140 : lw_okq (⟨"SignalTableModel", "bestOf", "(I)I"⟩, 95) := ⟨⟨by decide +kernel, by decide +kernel⟩, List.mem_of_getElem? (i := 1348) (by decide +kernel), List.mem_of_getElem? (i := 2099) (by decide +kernel), List.mem_of_getElem? (i := 2100) (by decide +kernel)⟩
theorem lw_p141 : lw_okq (⟨"SignalTableModel", "lossNow", "(I)I"⟩, 95) := ⟨⟨by decide +kernel, by decide +kernel⟩, List.mem_of_getElem? (i := 1348) (by decide +kernel), List.mem_of_getElem? (i := 2115) (by decide +kernel), List.mem_of_getElem? (i := 2116) (by decide +kernel)⟩
theorem lw_p142 : lw_okq (⟨"SignalTableModel", "liesWith", "(II)I"⟩, 95) := ⟨⟨by decide +kernel, by decide +kernel⟩, List.mem_of_getElem? (i := 1348) (by decide +kernel), List.mem_of_getElem? (i := 2127) (by decide +kernel), List.mem_of_getElem? (i := 2128) (by decide +kernel)⟩
theorem lw_p143 : lw_okq (⟨"SignalTableModel", "canGain", "(I)Z"⟩, 95) := ⟨⟨by decide +kernel, by decide +kernel⟩, List.mem_of_getElem? (i := 1348) (by decide +kernel), List.mem_of_getElem? (i := 2140) (by decide +kernel), List.mem_of_getElem? (i := 2141) (by decide +kernel)⟩
def lw_privs_9 : List (MethodName × Nat) := [(⟨"SignalTableModel", "fillTable", "(I)V"⟩, 95), (⟨"SignalTableModel", "fillRest", "(III)V"⟩, 95), (⟨"SignalTableModel", "trick", "(I)I"⟩, 95), (⟨"SignalTableModel", "nextCard", "(II)Z"⟩, 95), (⟨"SignalTableModel", "worthBehind", "(I)I"⟩, 95), (⟨"SignalTableModel", "maskBehind", "(II)I"⟩, 95), (⟨"SignalTableModel", "takes", "(III)V"⟩, 95), (⟨"SignalTableModel", "openBehind", "(I)I"⟩, 95), (⟨"SignalTableModel", "canMean", "(I)Z"⟩, 95), (⟨"SignalTableModel", "isLate", "()Z"⟩, 95), (⟨"SignalTableModel", "fillMeans", "(I)V"⟩, 95), (⟨"SignalTableModel", "tricksLeft", "()I"⟩, 95), (⟨"SignalTableModel", "bestOf", "(I)I"⟩, 95), (⟨"SignalTableModel", "lossNow", "(I)I"⟩, 95), (⟨"SignalTableModel", "liesWith", "(II)I"⟩, 95), (⟨"SignalTableModel", "canGain", "(I)Z"⟩, 95)]
theorem lw_r9 : ∀ q ∈ lw_privs_9, lw_okq q := List.forall_mem_cons.mpr ⟨lw_p128, List.forall_mem_cons.mpr ⟨lw_p129, List.forall_mem_cons.mpr ⟨lw_p130, List.forall_mem_cons.mpr ⟨lw_p131, List.forall_mem_cons.mpr ⟨lw_p132, List.forall_mem_cons.mpr ⟨lw_p133, List.forall_mem_cons.mpr ⟨lw_p134, List.forall_mem_cons.mpr ⟨lw_p135, List.forall_mem_cons.mpr ⟨lw_p136, List.forall_mem_cons.mpr ⟨lw_p137, List.forall_mem_cons.mpr ⟨lw_p138, List.forall_mem_cons.mpr ⟨lw_p139, List.forall_mem_cons.mpr ⟨lw_p140, List.forall_mem_cons.mpr ⟨lw_p141, List.forall_mem_cons.mpr ⟨lw_p142, List.forall_mem_cons.mpr ⟨lw_p143, fun _ h => absurd h List.not_mem_nil⟩⟩⟩⟩⟩⟩⟩⟩⟩⟩⟩⟩⟩⟩⟩⟩
theorem lw_p144 : lw_okq (⟨"SignalTableModel", "keepsAside", "()V"⟩, 95) := ⟨⟨by decide +kernel, by decide +kernel⟩, List.mem_of_getElem? (i := 1348) (by decide +kernel), List.mem_of_getElem? (i := 2144) (by decide +kernel), List.mem_of_getElem? (i := 2145) (by decide +kernel)⟩
theorem lw_p145 : lw_okq (⟨"SignalTableModel", "tricksBy", "(III)I"⟩, 95) := ⟨⟨by decide +kernel, by decide +kernel⟩, List.mem_of_getElem? (i := 1348) (by decide +kernel), List.mem_of_getElem? (i := 2148) (by decide +kernel), List.mem_of_getElem? (i := 2149) (by decide +kernel)⟩
theorem lw_p146 : lw_okq (⟨"SignalTableModel", "hasSide", "(II)Z"⟩, 95) := ⟨⟨by decide +kernel, by decide +kernel⟩, List.mem_of_getElem? (i := 1348) (by decide +kernel), List.mem_of_getElem? (i := 2153) (by decide +kernel), List.mem_of_getElem? (i := 2154) (by decide +kernel)⟩
theorem lw_p147 : lw_okq (⟨"SignalTableModel", "takesUp", "()V"⟩, 95) := ⟨⟨by decide +kernel, by decide +kernel⟩, List.mem_of_getElem? (i := 1348) (by decide +kernel), List.mem_of_getElem? (i := 2158) (by decide +kernel), List.mem_of_getElem? (i := 2159) (by decide +kernel)⟩
theorem lw_p148 : lw_okq (⟨"SignalTableModel", "sumBooks", "(IIZ)I"⟩, 95) := ⟨⟨by decide +kernel, by decide +kernel⟩, List.mem_of_getElem? (i := 1348) (by decide +kernel), List.mem_of_getElem? (i := 2174) (by decide +kernel), List.mem_of_getElem? (i := 2175) (by decide +kernel)⟩
theorem lw_p149 : lw_okq (⟨"SignalTableModel", "isCustom", "(I)Z"⟩, 95) := ⟨⟨by decide +kernel, by decide +kernel⟩, List.mem_of_getElem? (i := 1348) (by decide +kernel), List.mem_of_getElem? (i := 2182) (by decide +kernel), List.mem_of_getElem? (i := 2183) (by decide +kernel)⟩
theorem lw_p150 : lw_okq (⟨"SignalTableModel", "opens", "(I)Z"⟩, 95) := ⟨⟨by decide +kernel, by decide +kernel⟩, List.mem_of_getElem? (i := 1348) (by decide +kernel), List.mem_of_getElem? (i := 2190) (by decide +kernel), List.mem_of_getElem? (i := 2191) (by decide +kernel)⟩
theorem lw_p151 : lw_okq (⟨"SignalTableModel", "countOpenings", "(III)I"⟩, 95) := ⟨⟨by decide +kernel, by decide +kernel⟩, List.mem_of_getElem? (i := 1348) (by decide +kernel), List.mem_of_getElem? (i := 2194) (by decide +kernel), List.mem_of_getElem? (i := 2195) (by decide +kernel)⟩
theorem lw_p152 : lw_okq (⟨"SignalTableModel", "counts", "(IIIII)Z"⟩, 95) := ⟨⟨by decide +kernel, by decide +kernel⟩, List.mem_of_getElem? (i := 1348) (by decide +kernel), List.mem_of_getElem? (i := 2198) (by decide +kernel), List.mem_of_getElem? (i := 2199) (by decide +kernel)⟩
def lw_privs_10 : List (MethodName × Nat) := [(⟨"SignalTableModel", "keepsAside", "()V"⟩, 95), (⟨"SignalTableModel", "tricksBy", "(III)I"⟩, 95), (⟨"SignalTableModel", "hasSide", "(II)Z"⟩, 95), (⟨"SignalTableModel", "takesUp", "()V"⟩, 95), (⟨"SignalTableModel", "sumBooks", "(IIZ)I"⟩, 95), (⟨"SignalTableModel", "isCustom", "(I)Z"⟩, 95), (⟨"SignalTableModel", "opens", "(I)Z"⟩, 95), (⟨"SignalTableModel", "countOpenings", "(III)I"⟩, 95), (⟨"SignalTableModel", "counts", "(IIIII)Z"⟩, 95)]
theorem lw_r10 : ∀ q ∈ lw_privs_10, lw_okq q := List.forall_mem_cons.mpr ⟨lw_p144, List.forall_mem_cons.mpr ⟨lw_p145, List.forall_mem_cons.mpr ⟨lw_p146, List.forall_mem_cons.mpr ⟨lw_p147, List.forall_mem_cons.mpr ⟨lw_p148, List.forall_mem_cons.mpr ⟨lw_p149, List.forall_mem_cons.mpr ⟨lw_p150, List.forall_mem_cons.mpr ⟨lw_p151, List.forall_mem_cons.mpr ⟨lw_p152, fun _ h => absurd h List.not_mem_nil⟩⟩⟩⟩⟩⟩⟩⟩⟩
def lw_privs : List (MethodName × Nat) := lw_privs_1 ++ (lw_privs_2 ++ (lw_privs_3 ++ (lw_privs_4 ++ (lw_privs_5 ++ (lw_privs_6 ++ (lw_privs_7 ++ (lw_privs_8 ++ (lw_privs_9 ++ (lw_privs_10)))))))))
def lw_tbl : List Cond := k2_sels lw_privs ++ tables_1
theorem lw_privs_ok : ∀ q ∈ lw_privs, lw_okq q := by
  show ∀ q ∈ lw_privs_1 ++ (lw_privs_2 ++ (lw_privs_3 ++ (lw_privs_4 ++ (lw_privs_5 ++ (lw_privs_6 ++ (lw_privs_7 ++ (lw_privs_8 ++ (lw_privs_9 ++ (lw_privs_10))))))))), lw_okq q
  exact List.forall_mem_append.mpr ⟨lw_r1, List.forall_mem_append.mpr ⟨lw_r2, List.forall_mem_append.mpr ⟨lw_r3, List.forall_mem_append.mpr ⟨lw_r4, List.forall_mem_append.mpr ⟨lw_r5, List.forall_mem_append.mpr ⟨lw_r6, List.forall_mem_append.mpr ⟨lw_r7, List.forall_mem_append.mpr ⟨lw_r8, List.forall_mem_append.mpr ⟨lw_r9, lw_r10⟩⟩⟩⟩⟩⟩⟩⟩⟩
end
section
/-! the classes: names, fields in the order of the slots, types; the words of the tables that keep over calls -/
def lwg : List Cond := lw_tbl.filter goodWord
theorem wu_mem {w : Cond} {i : Nat} (h : lw_tbl[i]? = some w) (hg : goodWord w = true) : w ∈ lwg := List.mem_filter.mpr ⟨List.mem_of_getElem? h, hg⟩
theorem wu_tbl {w : Cond} (h : w ∈ lwg) : w ∈ lw_tbl := (List.mem_filter.mp h).1
theorem wu_good : GoodIn lwg lwg := fun w h => ⟨h, good_of_word (List.mem_filter.mp h).2⟩
theorem wu_lay {ws : List Cond} (ps : List Nat) (hp : ws = ps.filterMap (fun i => lw_tbl[i]?)) (hg : ws.all goodWord = true) : ∀ w ∈ ws, w ∈ lwg := by
  intro w hw
  have hg1 := List.all_eq_true.mp hg w hw
  rw [hp] at hw
  obtain ⟨i, -, hi⟩ := List.mem_filterMap.mp hw
  exact wu_mem hi hg1
def RX0 : String := "SignalTable$Books"
def TX0 : u_T := fun k => match k with
  | 0 => ("SignalTable$Books", "applied", "[I", true)
  | 1 => ("SignalTable$Books", "lied", "[I", true)
  | _ => ("SignalTable$Books", "size", "I", false)
def tyX0 : Nat → FieldType := fun k => match k with
  | 0 => .array .int
  | 1 => .array .int
  | _ => .int
set_option maxRecDepth 20000 in
theorem nmX0 : ∀ a, a < 3 → ∀ b, b < 3 → a ≠ b → (TX0 a).2.1 ≠ (TX0 b).2.1 := by decide +kernel
set_option maxRecDepth 20000 in
theorem tyX0_ok : ∀ k, k < 3 → parseFieldDescriptor (TX0 k).2.2.1 = some (tyX0 k) := by decide +kernel
set_option maxRecDepth 20000 in
theorem inX0 : ∀ w ∈ u_ws RX0 TX0 3, w ∈ lwg := wu_lay [671, 673, 675] (by decide +kernel) (by decide +kernel)
def RX1 : String := "SignalTable$Deals"
def TX1 : u_T := fun k => match k with
  | 0 => ("SignalTable$Deals", "laws", "LSignalTable$Laws;", true)
  | 1 => ("SignalTable$Deals", "judge", "LSignalTable$Judge;", true)
  | 2 => ("SignalTable$Deals", "listed", "[[I", true)
  | 3 => ("SignalTable$Deals", "size", "[I", true)
  | 4 => ("SignalTable$Deals", "fitting", "[[J", true)
  | 5 => ("SignalTable$Deals", "played", "[I", true)
  | 6 => ("SignalTable$Deals", "hand", "[I", true)
  | 7 => ("SignalTable$Deals", "own", "I", false)
  | 8 => ("SignalTable$Deals", "one", "I", false)
  | 9 => ("SignalTable$Deals", "two", "I", false)
  | 10 => ("SignalTable$Deals", "three", "I", false)
  | 11 => ("SignalTable$Deals", "atOne", "I", false)
  | _ => ("SignalTable$Deals", "atTwo", "I", false)
def tyX1 : Nat → FieldType := fun k => match k with
  | 0 => .object "SignalTable$Laws"
  | 1 => .object "SignalTable$Judge"
  | 2 => .array (.array .int)
  | 3 => .array .int
  | 4 => .array (.array .long)
  | 5 => .array .int
  | 6 => .array .int
  | 7 => .int
  | 8 => .int
  | 9 => .int
  | 10 => .int
  | 11 => .int
  | _ => .int
set_option maxRecDepth 20000 in
theorem nmX1 : ∀ a, a < 13 → ∀ b, b < 13 → a ≠ b → (TX1 a).2.1 ≠ (TX1 b).2.1 := by decide +kernel
set_option maxRecDepth 20000 in
theorem tyX1_ok : ∀ k, k < 13 → parseFieldDescriptor (TX1 k).2.2.1 = some (tyX1 k) := by decide +kernel
set_option maxRecDepth 20000 in
theorem inX1 : ∀ w ∈ u_ws RX1 TX1 13, w ∈ lwg := wu_lay [590, 592, 594, 596, 598, 600, 602, 604, 606, 608, 610, 612, 614] (by decide +kernel) (by decide +kernel)
def RX2 : String := "SignalTable$Gains"
def TX2 : u_T := fun k => match k with
  | 0 => ("SignalTable$Gains", "trial", "LSignalTable$Game;", true)
  | 1 => ("SignalTable$Gains", "weigher", "LSignalTable$Weigher;", true)
  | _ => ("SignalTable$Gains", "memory", "[I", true)
def tyX2 : Nat → FieldType := fun k => match k with
  | 0 => .object "SignalTable$Game"
  | 1 => .object "SignalTable$Weigher"
  | _ => .array .int
set_option maxRecDepth 20000 in
theorem nmX2 : ∀ a, a < 3 → ∀ b, b < 3 → a ≠ b → (TX2 a).2.1 ≠ (TX2 b).2.1 := by decide +kernel
set_option maxRecDepth 20000 in
theorem tyX2_ok : ∀ k, k < 3 → parseFieldDescriptor (TX2 k).2.2.1 = some (tyX2 k) := by decide +kernel
set_option maxRecDepth 20000 in
theorem inX2 : ∀ w ∈ u_ws RX2 TX2 3, w ∈ lwg := wu_lay [654, 656, 658] (by decide +kernel) (by decide +kernel)
def RX3 : String := "SignalTable$Game"
def TX3 : u_T := fun k => match k with
  | 0 => ("SignalTable$Game", "laws", "LSignalTable$Laws;", true)
  | 1 => ("SignalTable$Game", "judge", "LSignalTable$Judge;", true)
  | 2 => ("SignalTable$Game", "dealtOut", "Z", false)
  | 3 => ("SignalTable$Game", "dealt", "[I", true)
  | 4 => ("SignalTable$Game", "now", "[I", true)
  | 5 => ("SignalTable$Game", "first", "I", false)
  | 6 => ("SignalTable$Game", "turn", "I", false)
  | 7 => ("SignalTable$Game", "size", "I", false)
  | 8 => ("SignalTable$Game", "cards", "[I", true)
  | 9 => ("SignalTable$Game", "who", "[I", true)
  | 10 => ("SignalTable$Game", "kind", "[I", true)
  | 11 => ("SignalTable$Game", "led", "[I", true)
  | 12 => ("SignalTable$Game", "before", "[I", true)
  | 13 => ("SignalTable$Game", "broken", "[I", true)
  | 14 => ("SignalTable$Game", "applies", "[I", true)
  | 15 => ("SignalTable$Game", "lied", "[I", true)
  | 16 => ("SignalTable$Game", "winners", "[I", true)
  | _ => ("SignalTable$Game", "stamp", "I", false)
def tyX3 : Nat → FieldType := fun k => match k with
  | 0 => .object "SignalTable$Laws"
  | 1 => .object "SignalTable$Judge"
  | 2 => .boolean
  | 3 => .array .int
  | 4 => .array .int
  | 5 => .int
  | 6 => .int
  | 7 => .int
  | 8 => .array .int
  | 9 => .array .int
  | 10 => .array .int
  | 11 => .array .int
  | 12 => .array .int
  | 13 => .array .int
  | 14 => .array .int
  | 15 => .array .int
  | 16 => .array .int
  | _ => .int
set_option maxRecDepth 20000 in
theorem nmX3 : ∀ a, a < 18 → ∀ b, b < 18 → a ≠ b → (TX3 a).2.1 ≠ (TX3 b).2.1 := by decide +kernel
set_option maxRecDepth 20000 in
theorem tyX3_ok : ∀ k, k < 18 → parseFieldDescriptor (TX3 k).2.2.1 = some (tyX3 k) := by decide +kernel
set_option maxRecDepth 20000 in
theorem inX3 : ∀ w ∈ u_ws RX3 TX3 18, w ∈ lwg := wu_lay [477, 479, 481, 483, 485, 487, 489, 491, 493, 495, 497, 499, 501, 503, 505, 507, 509, 511] (by decide +kernel) (by decide +kernel)
def RX4 : String := "SignalTable$Judge"
def TX4 : u_T := fun k => match k with
  | 0 => ("SignalTable$Judge", "laws", "LSignalTable$Laws;", true)
  | 1 => ("SignalTable$Judge", "variable", "[I", true)
  | _ => ("SignalTable$Judge", "stack", "[I", true)
def tyX4 : Nat → FieldType := fun k => match k with
  | 0 => .object "SignalTable$Laws"
  | 1 => .array .int
  | _ => .array .int
set_option maxRecDepth 20000 in
theorem nmX4 : ∀ a, a < 3 → ∀ b, b < 3 → a ≠ b → (TX4 a).2.1 ≠ (TX4 b).2.1 := by decide +kernel
set_option maxRecDepth 20000 in
theorem tyX4_ok : ∀ k, k < 3 → parseFieldDescriptor (TX4 k).2.2.1 = some (tyX4 k) := by decide +kernel
set_option maxRecDepth 20000 in
theorem inX4 : ∀ w ∈ u_ws RX4 TX4 3, w ∈ lwg := wu_lay [290, 292, 294] (by decide +kernel) (by decide +kernel)
def RX5 : String := "SignalTable$Laws"
def TX5 : u_T := fun k => match k with
  | 0 => ("SignalTable$Laws", "suits", "I", false)
  | 1 => ("SignalTable$Laws", "ranks", "I", false)
  | 2 => ("SignalTable$Laws", "trump", "I", false)
  | 3 => ("SignalTable$Laws", "customs", "I", false)
  | 4 => ("SignalTable$Laws", "side", "[I", true)
  | 5 => ("SignalTable$Laws", "kind", "[I", true)
  | 6 => ("SignalTable$Laws", "from", "[I", true)
  | 7 => ("SignalTable$Laws", "to", "[I", true)
  | 8 => ("SignalTable$Laws", "step", "[I", true)
  | 9 => ("SignalTable$Laws", "steps", "I", false)
  | 10 => ("SignalTable$Laws", "cards", "I", false)
  | 11 => ("SignalTable$Laws", "handSize", "I", false)
  | 12 => ("SignalTable$Laws", "suitCards", "[I", true)
  | 13 => ("SignalTable$Laws", "suitOf", "[I", true)
  | 14 => ("SignalTable$Laws", "hands", "[I", true)
  | _ => ("SignalTable$Laws", "handCount", "I", false)
def tyX5 : Nat → FieldType := fun k => match k with
  | 0 => .int
  | 1 => .int
  | 2 => .int
  | 3 => .int
  | 4 => .array .int
  | 5 => .array .int
  | 6 => .array .int
  | 7 => .array .int
  | 8 => .array .int
  | 9 => .int
  | 10 => .int
  | 11 => .int
  | 12 => .array .int
  | 13 => .array .int
  | 14 => .array .int
  | _ => .int
set_option maxRecDepth 20000 in
theorem nmX5 : ∀ a, a < 16 → ∀ b, b < 16 → a ≠ b → (TX5 a).2.1 ≠ (TX5 b).2.1 := by decide +kernel
set_option maxRecDepth 20000 in
theorem tyX5_ok : ∀ k, k < 16 → parseFieldDescriptor (TX5 k).2.2.1 = some (tyX5 k) := by decide +kernel
set_option maxRecDepth 20000 in
theorem inX5 : ∀ w ∈ u_ws RX5 TX5 16, w ∈ lwg := wu_lay [246, 248, 250, 252, 254, 256, 258, 260, 262, 264, 266, 268, 270, 272, 274, 276] (by decide +kernel) (by decide +kernel)
def RX6 : String := "SignalTable$Open"
def TX6 : u_T := fun k => match k with
  | 0 => ("SignalTable$Open", "laws", "LSignalTable$Laws;", true)
  | 1 => ("SignalTable$Open", "suitCards", "[I", true)
  | 2 => ("SignalTable$Open", "suitOf", "[I", true)
  | 3 => ("SignalTable$Open", "hand", "[I", true)
  | 4 => ("SignalTable$Open", "trump", "I", false)
  | 5 => ("SignalTable$Open", "turn", "I", false)
  | 6 => ("SignalTable$Open", "trick", "I", false)
  | 7 => ("SignalTable$Open", "left", "I", false)
  | 8 => ("SignalTable$Open", "memory", "[I", true)
  | 9 => ("SignalTable$Open", "remembering", "Z", false)
  | 10 => ("SignalTable$Open", "age", "I", false)
  | 11 => ("SignalTable$Open", "memoryDeal", "[I", true)
  | 12 => ("SignalTable$Open", "line", "[I", true)
  | _ => ("SignalTable$Open", "lineStamp", "I", false)
def tyX6 : Nat → FieldType := fun k => match k with
  | 0 => .object "SignalTable$Laws"
  | 1 => .array .int
  | 2 => .array .int
  | 3 => .array .int
  | 4 => .int
  | 5 => .int
  | 6 => .int
  | 7 => .int
  | 8 => .array .int
  | 9 => .boolean
  | 10 => .int
  | 11 => .array .int
  | 12 => .array .int
  | _ => .int
set_option maxRecDepth 20000 in
theorem nmX6 : ∀ a, a < 14 → ∀ b, b < 14 → a ≠ b → (TX6 a).2.1 ≠ (TX6 b).2.1 := by decide +kernel
set_option maxRecDepth 20000 in
theorem tyX6_ok : ∀ k, k < 14 → parseFieldDescriptor (TX6 k).2.2.1 = some (tyX6 k) := by decide +kernel
set_option maxRecDepth 20000 in
theorem inX6 : ∀ w ∈ u_ws RX6 TX6 14, w ∈ lwg := wu_lay [537, 539, 541, 543, 545, 547, 549, 551, 553, 555, 557, 559, 561, 563] (by decide +kernel) (by decide +kernel)
def RX7 : String := "SignalTable$Openings"
def TX7 : u_T := fun k => match k with
  | 0 => ("SignalTable$Openings", "laws", "LSignalTable$Laws;", true)
  | _ => ("SignalTable$Openings", "judge", "LSignalTable$Judge;", true)
def tyX7 : Nat → FieldType := fun k => match k with
  | 0 => .object "SignalTable$Laws"
  | _ => .object "SignalTable$Judge"
set_option maxRecDepth 20000 in
theorem nmX7 : ∀ a, a < 2 → ∀ b, b < 2 → a ≠ b → (TX7 a).2.1 ≠ (TX7 b).2.1 := by decide +kernel
set_option maxRecDepth 20000 in
theorem tyX7_ok : ∀ k, k < 2 → parseFieldDescriptor (TX7 k).2.2.1 = some (tyX7 k) := by decide +kernel
set_option maxRecDepth 20000 in
theorem inX7 : ∀ w ∈ u_ws RX7 TX7 2, w ∈ lwg := wu_lay [686, 688] (by decide +kernel) (by decide +kernel)
def RX8 : String := "SignalTable$Reader"
def TX8 : u_T := fun k => match k with
  | 0 => ("SignalTable$Reader", "tokens", "LSignalTable$Tokens;", true)
  | 1 => ("SignalTable$Reader", "laws", "LSignalTable$Laws;", true)
  | 2 => ("SignalTable$Reader", "names", "[J", true)
  | 3 => ("SignalTable$Reader", "writing", "Z", false)
  | 4 => ("SignalTable$Reader", "at", "I", false)
  | 5 => ("SignalTable$Reader", "type", "I", false)
  | 6 => ("SignalTable$Reader", "customs", "I", false)
  | 7 => ("SignalTable$Reader", "fault", "I", false)
  | 8 => ("SignalTable$Reader", "place", "I", false)
  | 9 => ("SignalTable$Reader", "laterFault", "I", false)
  | _ => ("SignalTable$Reader", "laterPlace", "I", false)
def tyX8 : Nat → FieldType := fun k => match k with
  | 0 => .object "SignalTable$Tokens"
  | 1 => .object "SignalTable$Laws"
  | 2 => .array .long
  | 3 => .boolean
  | 4 => .int
  | 5 => .int
  | 6 => .int
  | 7 => .int
  | 8 => .int
  | 9 => .int
  | _ => .int
set_option maxRecDepth 20000 in
theorem nmX8 : ∀ a, a < 11 → ∀ b, b < 11 → a ≠ b → (TX8 a).2.1 ≠ (TX8 b).2.1 := by decide +kernel
set_option maxRecDepth 20000 in
theorem tyX8_ok : ∀ k, k < 11 → parseFieldDescriptor (TX8 k).2.2.1 = some (tyX8 k) := by decide +kernel
set_option maxRecDepth 20000 in
theorem inX8 : ∀ w ∈ u_ws RX8 TX8 11, w ∈ lwg := wu_lay [391, 393, 395, 397, 399, 401, 403, 405, 407, 409, 411] (by decide +kernel) (by decide +kernel)
def RX9 : String := "SignalTable$Tokens"
def TX9 : u_T := fun k => match k with
  | 0 => ("SignalTable$Tokens", "type", "[I", true)
  | 1 => ("SignalTable$Tokens", "place", "[I", true)
  | 2 => ("SignalTable$Tokens", "value", "[J", true)
  | 3 => ("SignalTable$Tokens", "words", "[J", true)
  | _ => ("SignalTable$Tokens", "size", "I", false)
def tyX9 : Nat → FieldType := fun k => match k with
  | 0 => .array .int
  | 1 => .array .int
  | 2 => .array .long
  | 3 => .array .long
  | _ => .int
set_option maxRecDepth 20000 in
theorem nmX9 : ∀ a, a < 5 → ∀ b, b < 5 → a ≠ b → (TX9 a).2.1 ≠ (TX9 b).2.1 := by decide +kernel
set_option maxRecDepth 20000 in
theorem tyX9_ok : ∀ k, k < 5 → parseFieldDescriptor (TX9 k).2.2.1 = some (tyX9 k) := by decide +kernel
set_option maxRecDepth 20000 in
theorem inX9 : ∀ w ∈ u_ws RX9 TX9 5, w ∈ lwg := wu_lay [367, 369, 371, 373, 375] (by decide +kernel) (by decide +kernel)
def RX10 : String := "SignalTable$Weigher"
def TX10 : u_T := fun k => match k with
  | 0 => ("SignalTable$Weigher", "deals", "LSignalTable$Deals;", true)
  | 1 => ("SignalTable$Weigher", "solver", "LSignalTable$Open;", true)
  | 2 => ("SignalTable$Weigher", "tally", "[I", true)
  | 3 => ("SignalTable$Weigher", "weighed", "I", false)
  | 4 => ("SignalTable$Weigher", "lastGame", "LSignalTable$Game;", false)
  | 5 => ("SignalTable$Weigher", "lastStamp", "I", false)
  | _ => ("SignalTable$Weigher", "lastCustoms", "I", false)
def tyX10 : Nat → FieldType := fun k => match k with
  | 0 => .object "SignalTable$Deals"
  | 1 => .object "SignalTable$Open"
  | 2 => .array .int
  | 3 => .int
  | 4 => .object "SignalTable$Game"
  | 5 => .int
  | _ => .int
set_option maxRecDepth 20000 in
theorem nmX10 : ∀ a, a < 7 → ∀ b, b < 7 → a ≠ b → (TX10 a).2.1 ≠ (TX10 b).2.1 := by decide +kernel
set_option maxRecDepth 20000 in
theorem tyX10_ok : ∀ k, k < 7 → parseFieldDescriptor (TX10 k).2.2.1 = some (tyX10 k) := by decide +kernel
set_option maxRecDepth 20000 in
theorem inX10 : ∀ w ∈ u_ws RX10 TX10 7, w ∈ lwg := wu_lay [630, 632, 634, 636, 638, 640, 642] (by decide +kernel) (by decide +kernel)
def RX11 : String := "SignalTable"
def TX11 : u_T := fun k => match k with
  | 0 => ("SignalTable", "tape", "[B", true)
  | 1 => ("SignalTable", "tapeSize", "I", false)
  | 2 => ("SignalTable", "laws", "LSignalTable$Laws;", true)
  | 3 => ("SignalTable", "judge", "LSignalTable$Judge;", true)
  | 4 => ("SignalTable", "reader", "LSignalTable$Reader;", true)
  | 5 => ("SignalTable", "game", "LSignalTable$Game;", true)
  | 6 => ("SignalTable", "trial", "LSignalTable$Game;", true)
  | 7 => ("SignalTable", "slots", "[LSignalTable$Game;", true)
  | 8 => ("SignalTable", "solver", "LSignalTable$Open;", true)
  | 9 => ("SignalTable", "deals", "LSignalTable$Deals;", true)
  | 10 => ("SignalTable", "weigher", "LSignalTable$Weigher;", true)
  | 11 => ("SignalTable", "gains", "LSignalTable$Gains;", true)
  | 12 => ("SignalTable", "shelf", "LSignalTable$Books;", true)
  | _ => ("SignalTable", "firstLeads", "LSignalTable$Openings;", true)
def tyX11 : Nat → FieldType := fun k => match k with
  | 0 => .array .byte
  | 1 => .int
  | 2 => .object "SignalTable$Laws"
  | 3 => .object "SignalTable$Judge"
  | 4 => .object "SignalTable$Reader"
  | 5 => .object "SignalTable$Game"
  | 6 => .object "SignalTable$Game"
  | 7 => .array (.object "SignalTable$Game")
  | 8 => .object "SignalTable$Open"
  | 9 => .object "SignalTable$Deals"
  | 10 => .object "SignalTable$Weigher"
  | 11 => .object "SignalTable$Gains"
  | 12 => .object "SignalTable$Books"
  | _ => .object "SignalTable$Openings"
set_option maxRecDepth 20000 in
theorem nmX11 : ∀ a, a < 14 → ∀ b, b < 14 → a ≠ b → (TX11 a).2.1 ≠ (TX11 b).2.1 := by decide +kernel
set_option maxRecDepth 20000 in
theorem tyX11_ok : ∀ k, k < 14 → parseFieldDescriptor (TX11 k).2.2.1 = some (tyX11 k) := by decide +kernel
set_option maxRecDepth 20000 in
theorem inX11 : ∀ w ∈ u_ws RX11 TX11 14, w ∈ lwg := wu_lay [721, 723, 725, 727, 729, 731, 733, 735, 737, 739, 741, 743, 745, 747] (by decide +kernel) (by decide +kernel)
def RX12 : String := "SignalTableModel"
def TX12 : u_T := fun k => match k with
  | 0 => ("SignalTableModel", "thrown", "I", false)
  | 1 => ("SignalTableModel", "tape", "[B", true)
  | 2 => ("SignalTableModel", "taped", "I", false)
  | 3 => ("SignalTableModel", "text", "[B", true)
  | 4 => ("SignalTableModel", "size", "I", false)
  | 5 => ("SignalTableModel", "tKind", "[I", true)
  | 6 => ("SignalTableModel", "tPlace", "[I", true)
  | 7 => ("SignalTableModel", "tValue", "[I", true)
  | 8 => ("SignalTableModel", "tName", "[J", true)
  | 9 => ("SignalTableModel", "keys", "[J", true)
  | 10 => ("SignalTableModel", "tokens", "I", false)
  | 11 => ("SignalTableModel", "t", "I", false)
  | 12 => ("SignalTableModel", "open", "I", false)
  | 13 => ("SignalTableModel", "fault", "I", false)
  | 14 => ("SignalTableModel", "faultPlace", "I", false)
  | 15 => ("SignalTableModel", "worst", "I", false)
  | 16 => ("SignalTableModel", "worstPlace", "I", false)
  | 17 => ("SignalTableModel", "place", "I", false)
  | 18 => ("SignalTableModel", "live", "I", false)
  | 19 => ("SignalTableModel", "side", "I", false)
  | 20 => ("SignalTableModel", "names", "I", false)
  | 21 => ("SignalTableModel", "nameOf", "[J", true)
  | 22 => ("SignalTableModel", "suits", "[I", true)
  | 23 => ("SignalTableModel", "ranks", "[I", true)
  | 24 => ("SignalTableModel", "trump", "[I", true)
  | 25 => ("SignalTableModel", "customs", "[I", true)
  | 26 => ("SignalTableModel", "customSide", "[I", true)
  | 27 => ("SignalTableModel", "customKind", "[I", true)
  | 28 => ("SignalTableModel", "litFirst", "[I", true)
  | 29 => ("SignalTableModel", "litLast", "[I", true)
  | 30 => ("SignalTableModel", "lits", "I", false)
  | 31 => ("SignalTableModel", "litSort", "[I", true)
  | 32 => ("SignalTableModel", "litNot", "[Z", true)
  | 33 => ("SignalTableModel", "litOr", "[Z", true)
  | 34 => ("SignalTableModel", "litLeft", "[I", true)
  | 35 => ("SignalTableModel", "litRight", "[I", true)
  | 36 => ("SignalTableModel", "litEnd", "[I", true)
  | 37 => ("SignalTableModel", "codes", "I", false)
  | 38 => ("SignalTableModel", "code", "[I", true)
  | 39 => ("SignalTableModel", "codeInt", "[I", true)
  | 40 => ("SignalTableModel", "waits", "[I", true)
  | 41 => ("SignalTableModel", "waiting", "I", false)
  | 42 => ("SignalTableModel", "variables", "[I", true)
  | 43 => ("SignalTableModel", "pile", "[I", true)
  | 44 => ("SignalTableModel", "isBroken", "Z", false)
  | 45 => ("SignalTableModel", "isDealt", "Z", false)
  | 46 => ("SignalTableModel", "dealt", "[I", true)
  | 47 => ("SignalTableModel", "leader", "I", false)
  | 48 => ("SignalTableModel", "played", "I", false)
  | 49 => ("SignalTableModel", "cardAt", "[I", true)
  | 50 => ("SignalTableModel", "whoAt", "[I", true)
  | 51 => ("SignalTableModel", "row", "[I", true)
  | 52 => ("SignalTableModel", "trial", "[I", true)
  | 53 => ("SignalTableModel", "dealFor", "I", false)
  | 54 => ("SignalTableModel", "dealTo", "I", false)
  | 55 => ("SignalTableModel", "dealCustoms", "I", false)
  | 56 => ("SignalTableModel", "other", "[I", true)
  | 57 => ("SignalTableModel", "knownOf", "[I", true)
  | 58 => ("SignalTableModel", "needs", "[I", true)
  | 59 => ("SignalTableModel", "free", "I", false)
  | 60 => ("SignalTableModel", "firstSet", "I", false)
  | 61 => ("SignalTableModel", "secondSet", "I", false)
  | 62 => ("SignalTableModel", "applying", "[I", true)
  | 63 => ("SignalTableModel", "surely", "[I", true)
  | 64 => ("SignalTableModel", "waysBy", "[I", true)
  | 65 => ("SignalTableModel", "table", "[B", true)
  | 66 => ("SignalTableModel", "has", "[I", true)
  | 67 => ("SignalTableModel", "cardOf", "[I", true)
  | 68 => ("SignalTableModel", "mask", "[I", true)
  | 69 => ("SignalTableModel", "lying", "I", false)
  | 70 => ("SignalTableModel", "lyingAt", "[I", true)
  | 71 => ("SignalTableModel", "lead0", "I", false)
  | 72 => ("SignalTableModel", "tried", "[I", true)
  | 73 => ("SignalTableModel", "at", "[I", true)
  | 74 => ("SignalTableModel", "found", "[I", true)
  | 75 => ("SignalTableModel", "sumOf", "[J", true)
  | 76 => ("SignalTableModel", "leastOf", "[I", true)
  | 77 => ("SignalTableModel", "spreadOf", "[I", true)
  | 78 => ("SignalTableModel", "meansMay", "I", false)
  | 79 => ("SignalTableModel", "meansDeals", "I", false)
  | 80 => ("SignalTableModel", "wasDealt", "Z", false)
  | 81 => ("SignalTableModel", "wasHands", "[I", true)
  | 82 => ("SignalTableModel", "wasLeader", "I", false)
  | 83 => ("SignalTableModel", "wasPlayed", "I", false)
  | 84 => ("SignalTableModel", "wasCards", "[I", true)
  | 85 => ("SignalTableModel", "wasWho", "[I", true)
  | 86 => ("SignalTableModel", "books", "I", false)
  | 87 => ("SignalTableModel", "bookApplied", "[I", true)
  | 88 => ("SignalTableModel", "bookLies", "[I", true)
  | 89 => ("SignalTableModel", "isHeld", "[Z", true)
  | 90 => ("SignalTableModel", "heldHands", "[I", true)
  | 91 => ("SignalTableModel", "heldLeader", "[I", true)
  | 92 => ("SignalTableModel", "heldPlayed", "[I", true)
  | 93 => ("SignalTableModel", "heldCards", "[I", true)
  | _ => ("SignalTableModel", "heldWho", "[I", true)
def tyX12 : Nat → FieldType := fun k => match k with
  | 0 => .int
  | 1 => .array .byte
  | 2 => .int
  | 3 => .array .byte
  | 4 => .int
  | 5 => .array .int
  | 6 => .array .int
  | 7 => .array .int
  | 8 => .array .long
  | 9 => .array .long
  | 10 => .int
  | 11 => .int
  | 12 => .int
  | 13 => .int
  | 14 => .int
  | 15 => .int
  | 16 => .int
  | 17 => .int
  | 18 => .int
  | 19 => .int
  | 20 => .int
  | 21 => .array .long
  | 22 => .array .int
  | 23 => .array .int
  | 24 => .array .int
  | 25 => .array .int
  | 26 => .array .int
  | 27 => .array .int
  | 28 => .array .int
  | 29 => .array .int
  | 30 => .int
  | 31 => .array .int
  | 32 => .array .boolean
  | 33 => .array .boolean
  | 34 => .array .int
  | 35 => .array .int
  | 36 => .array .int
  | 37 => .int
  | 38 => .array .int
  | 39 => .array .int
  | 40 => .array .int
  | 41 => .int
  | 42 => .array .int
  | 43 => .array .int
  | 44 => .boolean
  | 45 => .boolean
  | 46 => .array .int
  | 47 => .int
  | 48 => .int
  | 49 => .array .int
  | 50 => .array .int
  | 51 => .array .int
  | 52 => .array .int
  | 53 => .int
  | 54 => .int
  | 55 => .int
  | 56 => .array .int
  | 57 => .array .int
  | 58 => .array .int
  | 59 => .int
  | 60 => .int
  | 61 => .int
  | 62 => .array .int
  | 63 => .array .int
  | 64 => .array .int
  | 65 => .array .byte
  | 66 => .array .int
  | 67 => .array .int
  | 68 => .array .int
  | 69 => .int
  | 70 => .array .int
  | 71 => .int
  | 72 => .array .int
  | 73 => .array .int
  | 74 => .array .int
  | 75 => .array .long
  | 76 => .array .int
  | 77 => .array .int
  | 78 => .int
  | 79 => .int
  | 80 => .boolean
  | 81 => .array .int
  | 82 => .int
  | 83 => .int
  | 84 => .array .int
  | 85 => .array .int
  | 86 => .int
  | 87 => .array .int
  | 88 => .array .int
  | 89 => .array .boolean
  | 90 => .array .int
  | 91 => .array .int
  | 92 => .array .int
  | 93 => .array .int
  | _ => .array .int
set_option maxRecDepth 20000 in
theorem nmX12 : ∀ a, a < 95 → ∀ b, b < 95 → a ≠ b → (TX12 a).2.1 ≠ (TX12 b).2.1 := by decide +kernel
set_option maxRecDepth 20000 in
theorem tyX12_ok : ∀ k, k < 95 → parseFieldDescriptor (TX12 k).2.2.1 = some (tyX12 k) := by decide +kernel
set_option maxRecDepth 20000 in
theorem inX12 : ∀ w ∈ u_ws RX12 TX12 95, w ∈ lwg := wu_lay [1609, 1611, 1613, 1615, 1617, 1619, 1621, 1623, 1625, 1627, 1629, 1631, 1633, 1635, 1637, 1639, 1641, 1643, 1645, 1647, 1649, 1651, 1653, 1655, 1657, 1659, 1661, 1663, 1665, 1667, 1669, 1671, 1673, 1675, 1677, 1679, 1681, 1683, 1685, 1687, 1689, 1691, 1693, 1695, 1697, 1699, 1701, 1703, 1705, 1707, 1709, 1711, 1713, 1715, 1717, 1719, 1721, 1723, 1725, 1727, 1729, 1731, 1733, 1735, 1737, 1739, 1741, 1743, 1745, 1747, 1749, 1751, 1753, 1755, 1757, 1759, 1761, 1763, 1765, 1767, 1769, 1771, 1773, 1775, 1777, 1779, 1781, 1783, 1785, 1787, 1789, 1791, 1793, 1795, 1797] (by decide +kernel) (by decide +kernel)
abbrev vwCl : List vw_C := [(RX0, TX0, 3), (RX1, TX1, 13), (RX2, TX2, 3), (RX3, TX3, 18), (RX4, TX4, 3), (RX5, TX5, 16), (RX6, TX6, 14), (RX7, TX7, 2), (RX8, TX8, 11), (RX9, TX9, 5), (RX10, TX10, 7), (RX11, TX11, 14), (RX12, TX12, 95)]
end
section
/-! methods that leave the heap as it is ('readers'), over one list of words for all -/
def wU (y : MethodName) (c : ByteArray) (n : Nat) (r : Option FieldType) : List Cond := Cond.code y c n r :: lwg
theorem wu_goodC {y : MethodName} {c : ByteArray} {n : Nat} {r : Option FieldType} (h : Cond.code y c n r ∈ lwg) : GoodIn lwg (wU y c n r) := fun w hw => (List.mem_cons.mp hw).elim (fun e => by rw [e]; exact wu_good _ h) (fun hw => wu_good w hw)
abbrev rmU (d mc ms : Nat) : Room := { frames := d, cells := mc, slots := ms, locals := 64 * d }
def PR (D : va_G) (w : va_W) (tys : List (ClassId × FieldType)) (av : List Value) : Array Value → State → Prop := va_Pc av (fun U => va_P D vwCl w U.heap ∧ va_K D vwCl tys U)
theorem PR_blind {D : va_G} {w : va_W} {tys : List (ClassId × FieldType)} {av : List Value} : FrameBlind (PR D w tys av) := fun a U g mk q => ⟨q.1, q.2.1, va_K.moved (u := U) (U := U.calling g mk a) (Vm.Alike.refl U.vm) q.2.2⟩
theorem PR_of {D : va_G} {w : va_W} {tys : List (ClassId × FieldType)} {av : List Value} {s : State} {H : Heap} (hP : va_P D vwCl w H) (hK : va_K D vwCl tys s) : ∀ U : State, U.heap = H → s.WarmedH U.vm → PR D w tys av av.toArray U := fun U hU hW => ⟨rfl, by rw [hU]; exact hP, va_K.moved hW.alike hK⟩
def Rd (l : Launch) (y : MethodName) (c : ByteArray) (n : Nat) (ret : Option FieldType) (d : Nat) (D : va_G) (w : va_W) (tys : List (ClassId × FieldType)) (av : List Value) (r : Value) : Prop := Met l y (wU y c n ret) (rmU d 0 0) (PR D w tys av) (k2_QcV r) 0 0 (fun _ => False)
theorem Rd.of {l : Launch} {y : MethodName} {cc : ByteArray} {maxL : Nat} {ret : Option FieldType} {d : Nat} {D : va_G} {w : va_W} {tys : List (ClassId × FieldType)} {av : List Value} {r : Value} (hy : plainName y.cls = true) (hlen : (lg_sl av).length ≤ maxL)
    (body : ∀ (p : Program) (e : Env) (s : State) (m : MethodId) (below : List Frame) (meth : Method) (c : Code) (ls : Array Slot), p.tables.exec = Jvm.exec → c.code = cc → meth.sig.returnType = ret → c.maxLocals = maxL → s.vm.findClass y.cls = some m.cls → (∀ w ∈ lwg, w.before av.toArray s = true) → meth.locks = false → va_P D vwCl w s.heap → va_K D vwCl tys s → lv_has ls maxL (lv_args 0 av) →
      W p l e (rmU d 0 0) s m av.toArray below meth c s.heap [] 0 0 (MQ below (k2_QcV r) av.toArray s 0 0 (fun _ => False)) (F0 m 0 ls [])) : Rd l y cc maxL ret d D w tys av r := by
  refine Met.ofW (cc := cc) (maxL := maxL) (ret := ret) hy rfl ?_
  intro p e s m args below meth c s₁ B hml hv
  obtain ⟨rfl, hP, hK⟩ := hv
  rw [lg_entry_eq]
  exact body p e s m below meth c _ B.exec B.bytes B.returns hml (findClass_of_methodNamed B.named) (fun w h => atoms_spec (ws := wU y cc maxL ret) B.pre w (List.mem_cons_of_mem _ h)) B.notSynchronized hP hK (lv_entry av hlen)
section RdRows
variable {p : Program} {l : Launch} {e : Env} {R : Room} {s : State} {m : MethodId} {args : Array Value} {below : List Frame} {meth : Method} {c : Code} {H : Heap} {locs : List Loc} {cells slots : Nat} {Q : State → Prop} {cc : ByteArray} {pc : Nat} {ls : Array Slot} {rest : List Value}
theorem rd_i {v : Int32} {r : Value} (hx : p.tables.exec = Jvm.exec) (hb : c.code = cc) (hr : meth.sig.returnType = some .int) (hlocks : meth.locks = false) (hv : Value.int v = r) (hdg : decode cc pc = .ok (.ireturn, 1)) : W p l e R s m args below meth c s.heap [] 0 0 (MQ below (k2_QcV r) args s 0 0 (fun _ => False)) (F0 m pc ls [.int v]) := W.iret hx hb hr (fun t ht _ => ⟨by rw [hv], ht⟩) (fun q h => absurd h List.not_mem_nil) hdg hlocks
theorem rd_z {v : Int32} {r : Value} (hx : p.tables.exec = Jvm.exec) (hb : c.code = cc) (hr : meth.sig.returnType = some .boolean) (hlocks : meth.locks = false) (hn : narrow .boolean (.int v) = .int v) (hv : Value.int v = r) (hdg : decode cc pc = .ok (.ireturn, 1)) : W p l e R s m args below meth c s.heap [] 0 0 (MQ below (k2_QcV r) args s 0 0 (fun _ => False)) (F0 m pc ls [.int v]) := W.zret hx hb hr hn (fun t ht _ => ⟨by rw [hv], ht⟩) (fun q h => absurd h List.not_mem_nil) hdg hlocks
theorem rd_l {v : Int64} {r : Value} (hx : p.tables.exec = Jvm.exec) (hb : c.code = cc) (hr : meth.sig.returnType = some .long) (hlocks : meth.locks = false) (hv : Value.long v = r) (hdg : decode cc pc = .ok (.lreturn, 1)) : W p l e R s m args below meth c s.heap [] 0 0 (MQ below (k2_QcV r) args s 0 0 (fun _ => False)) (F0 m pc ls [.long v]) := W.lret hx hb hr (fun t ht _ => ⟨by rw [hv], ht⟩) (fun q h => absurd h List.not_mem_nil) hdg hlocks
theorem z_i {x v : Int32} (h : x = v) (k : W p l e R s m args below meth c H locs cells slots Q (F0 m pc ls (.int v :: rest))) : W p l e R s m args below meth c H locs cells slots Q (F0 m pc ls (.int x :: rest)) := by rw [h]; exact k
theorem z_l {x v : Int64} (h : x = v) (k : W p l e R s m args below meth c H locs cells slots Q (F0 m pc ls (.long v :: rest))) : W p l e R s m args below meth c H locs cells slots Q (F0 m pc ls (.long x :: rest)) := by rw [h]; exact k
theorem z_v {x v : Value} (h : x = v) (k : W p l e R s m args below meth c H locs cells slots Q (F0 m pc ls (v :: rest))) : W p l e R s m args below meth c H locs cells slots Q (F0 m pc ls (x :: rest)) := by rw [h]; exact k
/-- the words of a call, by their places in the tables -/
def CaV (own C : String) (index : Nat) (y : MethodName) (bytes : ByteArray) (maxL : Nat) (ret : Option FieldType) (n : Nat) : Prop := Cond.methodLink own index y ∈ lwg ∧ Cond.instanceMethod y ∈ lwg ∧ Cond.selects C y y ∈ lwg ∧ Cond.initialized C ∈ lwg ∧ Cond.code y bytes maxL ret ∈ lwg ∧ y.cls = C ∧ y.cls ≠ "java/lang/invoke/MethodHandle" ∧ y.cls ≠ "java/lang/invoke/VarHandle" ∧ (parseMethodDescriptor y.desc).map (fun d => d.parameters.length) = some n
def CaS (own : String) (index : Nat) (y : MethodName) (bytes : ByteArray) (maxL : Nat) (ret : Option FieldType) (n : Nat) : Prop := Cond.methodLink own index y ∈ lwg ∧ Cond.static y ∈ lwg ∧ Cond.initialized y.cls ∈ lwg ∧ Cond.code y bytes maxL ret ∈ lwg ∧ y.cls ≠ "java/lang/invoke/MethodHandle" ∧ y.cls ≠ "java/lang/invoke/VarHandle" ∧ (parseMethodDescriptor y.desc).map (fun d => d.parameters.length) = some n
variable {own C : String} {index maxL n nL mc ms : Nat} {y : MethodName} {bytes : ByteArray} {ret : Option FieldType} {rm : Room} {D : va_G} {w : va_W} {tys : List (ClassId × FieldType)} {r : Value} {b : Nat} {As : List Value}
theorem CaV.cw (h : CaV own C index y bytes maxL ret n) (hts : ∀ w ∈ lwg, w.before args s = true) (hrc : rm.cells = mc) (hrs : rm.slots = ms) (hR : rm.frames + 1 ≤ R.frames ∧ 8 + (maxL + 11) + rm.locals ≤ R.locals) : CallW R s args own C index y bytes maxL ret (wU y bytes maxL ret) rm mc ms n := by
  obtain ⟨h1, h2, h3, h4, h5, h6⟩ := h
  refine cwV n hts ?_ rfl hrc hrs h6 hR
  intro w hw
  unfold wsV at hw
  rcases List.mem_append.mp hw with hw | hw
  · simp only [List.mem_cons, List.not_mem_nil, or_false] at hw
    rcases hw with rfl | rfl | rfl | rfl
    · exact wu_good _ h1
    · exact wu_good _ h2
    · exact wu_good _ h3
    · exact wu_good _ h4
  · exact wu_goodC h5 w hw
theorem CaS.cw (h : CaS own index y bytes maxL ret n) (hts : ∀ w ∈ lwg, w.before args s = true) (hrc : rm.cells = mc) (hrs : rm.slots = ms) (hR : rm.frames + 1 ≤ R.frames ∧ 8 + (maxL + 11) + rm.locals ≤ R.locals) : CallB R s args own index y bytes maxL ret (wU y bytes maxL ret) rm mc ms n ∧ (Cond.static y).before args s = true := by
  obtain ⟨h1, h2, h3, h5, h6⟩ := h
  exact ⟨callB_of n hts (wu_goodC h5) rfl hrc hrs (hts _ h3) (hts _ h1) h6 hR, hts _ h2⟩
/-- a reader called on an object of the world -/
theorem rd_V {d ci q0 N : Nat} {T : u_T} {fs : List Value} (hca : CaV own C index y bytes maxL ret n) (hx : p.tables.exec = Jvm.exec) (hb : c.code = cc) (hml : c.maxLocals = nL) (hown : s.vm.findClass own = some m.cls) (hts : ∀ w ∈ lwg, w.before args s = true) (hP : va_P D vwCl w H) (hK : va_K D vwCl tys s) (hM : Rd l y bytes maxL ret d D w tys (.ref b :: As) r) (hc : vwCl[ci]? = some (C, T, N)) (he : w[q0]? = some (b, .inr (ci, fs))) (hR : d + 1 ≤ R.frames ∧ 8 + (maxL + 11) + 64 * d ≤ R.locals) (hn : As.length = n) (hl : ls.size = nL) (hst : (rest.map fun v => v.category).sum ≤ 8) (hf : cells ≤ R.cells ∧ slots ≤ R.slots) (hdg : decode cc pc = .ok (.invokevirtual index, 3)) {st0 : List Value} (h0 : st0 = As.reverse ++ .ref b :: rest)
    (kk : W p l e R s m args below meth c H locs cells slots Q (F0 m (pc + 3) ls (r :: rest))) : W p l e R s m args below meth c H locs cells slots Q (F0 m pc ls st0) := by
  subst h0
  exact W.callV (W.runV (rest := rest) (As := As) ⟨hx, hb, hml, hown, hts⟩ hM (hca.cw hts rfl rfl hR) ⟨PR_blind, va_recv hK hP hc he, PR_of hP hK⟩ rfl hn hl rfl (lv_room hst) hdg hf) kk
/-- a static reader -/
theorem rd_S {d : Nat} (hca : CaS own index y bytes maxL ret n) (hx : p.tables.exec = Jvm.exec) (hb : c.code = cc) (hml : c.maxLocals = nL) (hown : s.vm.findClass own = some m.cls) (hts : ∀ w ∈ lwg, w.before args s = true) (hP : va_P D vwCl w H) (hK : va_K D vwCl tys s) (hM : Rd l y bytes maxL ret d D w tys As r) (hR : d + 1 ≤ R.frames ∧ 8 + (maxL + 11) + 64 * d ≤ R.locals) (hn : As.length = n) (hl : ls.size = nL) (hst : (rest.map fun v => v.category).sum ≤ 8) (hf : cells ≤ R.cells ∧ slots ≤ R.slots) (hdg : decode cc pc = .ok (.invokestatic index, 3)) {st0 : List Value} (h0 : st0 = As.reverse ++ rest)
    (kk : W p l e R s m args below meth c H locs cells slots Q (F0 m (pc + 3) ls (r :: rest))) : W p l e R s m args below meth c H locs cells slots Q (F0 m pc ls st0) := by
  subst h0
  exact W.callV (W.runS (rest := rest) (As := As) ⟨hx, hb, hml, hown, hts⟩ hM (hca.cw hts rfl rfl hR) ⟨PR_blind, PR_of hP hK⟩ rfl hn hl rfl (lv_room hst) hdg hf) kk
end RdRows
end
section
/-! names, words and decoded instructions of the readers -/
abbrev cX11_after : ByteArray := prog_1_method_24_code
def yX11_after : MethodName := ⟨RX11, "after", "(III)I"⟩
abbrev cX11_areCustoms : ByteArray := prog_1_method_55_code
def yX11_areCustoms : MethodName := ⟨RX11, "areCustoms", "(I)Z"⟩
abbrev cX11_bestSet : ByteArray := prog_1_method_40_code
def yX11_bestSet : MethodName := ⟨RX11, "bestSet", "(III)I"⟩
abbrev cX11_book : ByteArray := prog_1_method_42_code
def yX11_book : MethodName := ⟨RX11, "book", "()I"⟩
abbrev cX11_canBe : ByteArray := prog_1_method_23_code
def yX11_canBe : MethodName := ⟨RX11, "canBe", "(II)I"⟩
abbrev cX11_canGain : ByteArray := prog_1_method_41_code
def yX11_canGain : MethodName := ⟨RX11, "canGain", "(I)Z"⟩
abbrev cX11_canSee : ByteArray := prog_1_method_56_code
def yX11_canSee : MethodName := ⟨RX11, "canSee", "(II)Z"⟩
abbrev cX11_card : ByteArray := prog_1_method_18_code
def yX11_card : MethodName := ⟨RX11, "card", "(II)I"⟩
abbrev cX11_choice : ByteArray := prog_1_method_32_code
def yX11_choice : MethodName := ⟨RX11, "choice", "(I)I"⟩
abbrev cX11_count : ByteArray := prog_1_method_50_code
def yX11_count : MethodName := ⟨RX11, "count", "(I)I"⟩
abbrev cX11_differs : ByteArray := prog_1_method_36_code
def yX11_differs : MethodName := ⟨RX11, "differs", "(I)I"⟩
abbrev cX11_gain : ByteArray := prog_1_method_39_code
def yX11_gain : MethodName := ⟨RX11, "gain", "(III)I"⟩
abbrev cX11_gap : ByteArray := prog_1_method_47_code
def yX11_gap : MethodName := ⟨RX11, "gap", "()I"⟩
abbrev cX11_had : ByteArray := prog_1_method_26_code
def yX11_had : MethodName := ⟨RX11, "had", "(IIII)I"⟩
abbrev cX11_hand : ByteArray := prog_1_method_12_code
def yX11_hand : MethodName := ⟨RX11, "hand", "(IZ)I"⟩
abbrev cX11_hold : ByteArray := prog_1_method_48_code
def yX11_hold : MethodName := ⟨RX11, "hold", "(I)Z"⟩
abbrev cX11_isCustom : ByteArray := prog_1_method_54_code
def yX11_isCustom : MethodName := ⟨RX11, "isCustom", "(I)Z"⟩
abbrev cX11_isInHand : ByteArray := prog_1_method_57_code
def yX11_isInHand : MethodName := ⟨RX11, "isInHand", "(I)Z"⟩
abbrev cX11_kept : ByteArray := prog_1_method_43_code
def yX11_kept : MethodName := ⟨RX11, "kept", "(I)I"⟩
abbrev cX11_knows : ByteArray := prog_1_method_28_code
def yX11_knows : MethodName := ⟨RX11, "knows", "(IIII)I"⟩
abbrev cX11_lead : ByteArray := prog_1_method_11_code
def yX11_lead : MethodName := ⟨RX11, "lead", "(I)Z"⟩
abbrev cX11_lies : ByteArray := prog_1_method_37_code
def yX11_lies : MethodName := ⟨RX11, "lies", "(I)I"⟩
abbrev cX11_line : ByteArray := prog_1_method_30_code
def yX11_line : MethodName := ⟨RX11, "line", "(I)I"⟩
abbrev cX11_loss : ByteArray := prog_1_method_35_code
def yX11_loss : MethodName := ⟨RX11, "loss", "(I)I"⟩
abbrev cX11_may : ByteArray := prog_1_method_14_code
def yX11_may : MethodName := ⟨RX11, "may", "()I"⟩
abbrev cX11_mean : ByteArray := prog_1_method_31_code
def yX11_mean : MethodName := ⟨RX11, "mean", "(II)J"⟩
abbrev cX11_open : ByteArray := prog_1_method_29_code
def yX11_open : MethodName := ⟨RX11, "open", "()I"⟩
abbrev cX11_openings : ByteArray := prog_1_method_45_code
def yX11_openings : MethodName := ⟨RX11, "openings", "(II)I"⟩
abbrev cX11_place : ByteArray := prog_1_method_7_code
def yX11_place : MethodName := ⟨RX11, "place", "()I"⟩
abbrev cX11_play : ByteArray := prog_1_method_15_code
def yX11_play : MethodName := ⟨RX11, "play", "(I)I"⟩
abbrev cX11_quarrel : ByteArray := prog_1_method_46_code
def yX11_quarrel : MethodName := ⟨RX11, "quarrel", "(II)I"⟩
abbrev cX11_refusal : ByteArray := prog_1_method_59_code
def yX11_refusal : MethodName := ⟨RX11, "refusal", "(I)I"⟩
abbrev cX11_restore : ByteArray := prog_1_method_49_code
def yX11_restore : MethodName := ⟨RX11, "restore", "(I)Z"⟩
abbrev cX11_revoke : ByteArray := prog_1_method_16_code
def yX11_revoke : MethodName := ⟨RX11, "revoke", "(I)I"⟩
abbrev cX11_revokes : ByteArray := prog_1_method_21_code
def yX11_revokes : MethodName := ⟨RX11, "revokes", "(I)I"⟩
abbrev cX11_safe : ByteArray := prog_1_method_34_code
def yX11_safe : MethodName := ⟨RX11, "safe", "(II)I"⟩
abbrev cX11_says : ByteArray := prog_1_method_22_code
def yX11_says : MethodName := ⟨RX11, "says", "(III)I"⟩
abbrev cX11_slotsInUse : ByteArray := prog_1_method_51_code
def yX11_slotsInUse : MethodName := ⟨RX11, "slotsInUse", "()I"⟩
abbrev cX11_spread : ByteArray := prog_1_method_33_code
def yX11_spread : MethodName := ⟨RX11, "spread", "(III)I"⟩
abbrev cX11_sure : ByteArray := prog_1_method_27_code
def yX11_sure : MethodName := ⟨RX11, "sure", "(II)I"⟩
abbrev cX11_told : ByteArray := prog_1_method_44_code
def yX11_told : MethodName := ⟨RX11, "told", "(III)I"⟩
abbrev cX11_tricks : ByteArray := prog_1_method_19_code
def yX11_tricks : MethodName := ⟨RX11, "tricks", "(I)I"⟩
abbrev cX11_turn : ByteArray := prog_1_method_13_code
def yX11_turn : MethodName := ⟨RX11, "turn", "()I"⟩
abbrev cX11_undo : ByteArray := prog_1_method_17_code
def yX11_undo : MethodName := ⟨RX11, "undo", "()I"⟩
abbrev cX11_winner : ByteArray := prog_1_method_20_code
def yX11_winner : MethodName := ⟨RX11, "winner", "(I)I"⟩
abbrev cX11_worth : ByteArray := prog_1_method_38_code
def yX11_worth : MethodName := ⟨RX11, "worth", "(I)J"⟩
abbrev cX12_after : ByteArray := prog_14_method_91_code
def yX12_after : MethodName := ⟨RX12, "after", "(III)I"⟩
abbrev cX12_areCustoms : ByteArray := prog_14_method_43_code
def yX12_areCustoms : MethodName := ⟨RX12, "areCustoms", "(I)Z"⟩
abbrev cX12_bestSet : ByteArray := prog_14_method_134_code
def yX12_bestSet : MethodName := ⟨RX12, "bestSet", "(III)I"⟩
abbrev cX12_book : ByteArray := prog_14_method_135_code
def yX12_book : MethodName := ⟨RX12, "book", "()I"⟩
abbrev cX12_canAsk : ByteArray := prog_14_method_88_code
def yX12_canAsk : MethodName := ⟨RX12, "canAsk", "(II)Z"⟩
abbrev cX12_canBe : ByteArray := prog_14_method_90_code
def yX12_canBe : MethodName := ⟨RX12, "canBe", "(II)I"⟩
abbrev cX12_canGain : ByteArray := prog_14_method_132_code
def yX12_canGain : MethodName := ⟨RX12, "canGain", "(I)Z"⟩
abbrev cX12_canMean : ByteArray := prog_14_method_116_code
def yX12_canMean : MethodName := ⟨RX12, "canMean", "(I)Z"⟩
abbrev cX12_canPlay : ByteArray := prog_14_method_61_code
def yX12_canPlay : MethodName := ⟨RX12, "canPlay", "(I)Z"⟩
abbrev cX12_card : ByteArray := prog_14_method_69_code
def yX12_card : MethodName := ⟨RX12, "card", "(II)I"⟩
abbrev cX12_cards : ByteArray := prog_14_method_35_code
def yX12_cards : MethodName := ⟨RX12, "cards", "()I"⟩
abbrev cX12_choice : ByteArray := prog_14_method_119_code
def yX12_choice : MethodName := ⟨RX12, "choice", "(I)I"⟩
abbrev cX12_count : ByteArray := prog_14_method_148_code
def yX12_count : MethodName := ⟨RX12, "count", "(I)I"⟩
abbrev cX12_differs : ByteArray := prog_14_method_124_code
def yX12_differs : MethodName := ⟨RX12, "differs", "(I)I"⟩
abbrev cX12_gain : ByteArray := prog_14_method_133_code
def yX12_gain : MethodName := ⟨RX12, "gain", "(III)I"⟩
abbrev cX12_had : ByteArray := prog_14_method_92_code
def yX12_had : MethodName := ⟨RX12, "had", "(IIII)I"⟩
abbrev cX12_hand : ByteArray := prog_14_method_52_code
def yX12_hand : MethodName := ⟨RX12, "hand", "(IZ)I"⟩
abbrev cX12_handSize : ByteArray := prog_14_method_36_code
def yX12_handSize : MethodName := ⟨RX12, "handSize", "()I"⟩
abbrev cX12_hold : ByteArray := prog_14_method_146_code
def yX12_hold : MethodName := ⟨RX12, "hold", "(I)Z"⟩
abbrev cX12_in : ByteArray := prog_14_method_33_code
def yX12_in : MethodName := ⟨RX12, "in", "(III)Z"⟩
abbrev cX12_isCustom : ByteArray := prog_14_method_138_code
def yX12_isCustom : MethodName := ⟨RX12, "isCustom", "(I)Z"⟩
abbrev cX12_kept : ByteArray := prog_14_method_137_code
def yX12_kept : MethodName := ⟨RX12, "kept", "(I)I"⟩
abbrev cX12_knows : ByteArray := prog_14_method_96_code
def yX12_knows : MethodName := ⟨RX12, "knows", "(IIII)I"⟩
abbrev cX12_lead : ByteArray := prog_14_method_49_code
def yX12_lead : MethodName := ⟨RX12, "lead", "(I)Z"⟩
abbrev cX12_lies : ByteArray := prog_14_method_126_code
def yX12_lies : MethodName := ⟨RX12, "lies", "(I)I"⟩
abbrev cX12_line : ByteArray := prog_14_method_111_code
def yX12_line : MethodName := ⟨RX12, "line", "(I)I"⟩
abbrev cX12_loss : ByteArray := prog_14_method_123_code
def yX12_loss : MethodName := ⟨RX12, "loss", "(I)I"⟩
abbrev cX12_may : ByteArray := prog_14_method_59_code
def yX12_may : MethodName := ⟨RX12, "may", "()I"⟩
abbrev cX12_mayNow : ByteArray := prog_14_method_58_code
def yX12_mayNow : MethodName := ⟨RX12, "mayNow", "()I"⟩
abbrev cX12_mean : ByteArray := prog_14_method_117_code
def yX12_mean : MethodName := ⟨RX12, "mean", "(II)J"⟩
abbrev cX12_open : ByteArray := prog_14_method_109_code
def yX12_open : MethodName := ⟨RX12, "open", "()I"⟩
abbrev cX12_openings : ByteArray := prog_14_method_143_code
def yX12_openings : MethodName := ⟨RX12, "openings", "(II)I"⟩
abbrev cX12_place : ByteArray := prog_14_method_20_code
def yX12_place : MethodName := ⟨RX12, "place", "()I"⟩
abbrev cX12_play : ByteArray := prog_14_method_62_code
def yX12_play : MethodName := ⟨RX12, "play", "(I)I"⟩
abbrev cX12_quarrel : ByteArray := prog_14_method_144_code
def yX12_quarrel : MethodName := ⟨RX12, "quarrel", "(II)I"⟩
abbrev cX12_restore : ByteArray := prog_14_method_147_code
def yX12_restore : MethodName := ⟨RX12, "restore", "(I)Z"⟩
abbrev cX12_revoke : ByteArray := prog_14_method_63_code
def yX12_revoke : MethodName := ⟨RX12, "revoke", "(I)I"⟩
abbrev cX12_revokes : ByteArray := prog_14_method_72_code
def yX12_revokes : MethodName := ⟨RX12, "revokes", "(I)I"⟩
abbrev cX12_safe : ByteArray := prog_14_method_121_code
def yX12_safe : MethodName := ⟨RX12, "safe", "(II)I"⟩
abbrev cX12_says : ByteArray := prog_14_method_81_code
def yX12_says : MethodName := ⟨RX12, "says", "(III)I"⟩
abbrev cX12_spread : ByteArray := prog_14_method_120_code
def yX12_spread : MethodName := ⟨RX12, "spread", "(III)I"⟩
abbrev cX12_sure : ByteArray := prog_14_method_94_code
def yX12_sure : MethodName := ⟨RX12, "sure", "(II)I"⟩
abbrev cX12_told : ByteArray := prog_14_method_139_code
def yX12_told : MethodName := ⟨RX12, "told", "(III)I"⟩
abbrev cX12_tricks : ByteArray := prog_14_method_70_code
def yX12_tricks : MethodName := ⟨RX12, "tricks", "(I)I"⟩
abbrev cX12_trumpSuit : ByteArray := prog_14_method_39_code
def yX12_trumpSuit : MethodName := ⟨RX12, "trumpSuit", "()I"⟩
abbrev cX12_turn : ByteArray := prog_14_method_56_code
def yX12_turn : MethodName := ⟨RX12, "turn", "()I"⟩
abbrev cX12_turnNow : ByteArray := prog_14_method_55_code
def yX12_turnNow : MethodName := ⟨RX12, "turnNow", "()I"⟩
abbrev cX12_undo : ByteArray := prog_14_method_64_code
def yX12_undo : MethodName := ⟨RX12, "undo", "()I"⟩
abbrev cX12_winner : ByteArray := prog_14_method_71_code
def yX12_winner : MethodName := ⟨RX12, "winner", "(I)I"⟩
abbrev cX12_worth : ByteArray := prog_14_method_127_code
def yX12_worth : MethodName := ⟨RX12, "worth", "(I)J"⟩
abbrev cX3_isOver : ByteArray := prog_5_method_10_code
def yX3_isOver : MethodName := ⟨RX3, "isOver", "()Z"⟩
abbrev cX3_legal : ByteArray := prog_5_method_12_code
def yX3_legal : MethodName := ⟨RX3, "legal", "()I"⟩
abbrev cX3_wonBy : ByteArray := prog_5_method_22_code
def yX3_wonBy : MethodName := ⟨RX3, "wonBy", "(I)I"⟩
abbrev cX7_handsWithOneCard : ByteArray := prog_9_method_2_code
def yX7_handsWithOneCard : MethodName := ⟨RX7, "handsWithOneCard", "()I"⟩
abbrev cX7_untouched : ByteArray := prog_9_method_7_code
def yX7_untouched : MethodName := ⟨RX7, "untouched", "()I"⟩
theorem kw_24 : Cond.selects "SignalTable" yX11_isInHand yX11_isInHand ∈ lwg := wu_mem (i := 24) (by decide +kernel) rfl
theorem kw_30 : Cond.selects "SignalTable" yX11_areCustoms yX11_areCustoms ∈ lwg := wu_mem (i := 30) (by decide +kernel) rfl
theorem kw_31 : Cond.selects "SignalTable" yX11_canSee yX11_canSee ∈ lwg := wu_mem (i := 31) (by decide +kernel) rfl
theorem kw_50 : Cond.selects "SignalTable" yX11_refusal yX11_refusal ∈ lwg := wu_mem (i := 50) (by decide +kernel) rfl
theorem kw_55 : Cond.selects "SignalTable" yX11_canGain yX11_canGain ∈ lwg := wu_mem (i := 55) (by decide +kernel) rfl
theorem kw_58 : Cond.selects "SignalTable" yX11_isCustom yX11_isCustom ∈ lwg := wu_mem (i := 58) (by decide +kernel) rfl
theorem kw_60 : Cond.selects "SignalTable$Openings" yX7_handsWithOneCard yX7_handsWithOneCard ∈ lwg := wu_mem (i := 60) (by decide +kernel) rfl
theorem kw_61 : Cond.selects "SignalTable" yX11_slotsInUse yX11_slotsInUse ∈ lwg := wu_mem (i := 61) (by decide +kernel) rfl
theorem kw_81 : Cond.selects "SignalTableModel" yX12_cards yX12_cards ∈ lwg := wu_mem (i := 81) (by decide +kernel) rfl
theorem kw_82 : Cond.selects "SignalTableModel" yX12_handSize yX12_handSize ∈ lwg := wu_mem (i := 82) (by decide +kernel) rfl
theorem kw_86 : Cond.selects "SignalTableModel" yX12_turnNow yX12_turnNow ∈ lwg := wu_mem (i := 86) (by decide +kernel) rfl
theorem kw_90 : Cond.selects "SignalTableModel" yX12_trumpSuit yX12_trumpSuit ∈ lwg := wu_mem (i := 90) (by decide +kernel) rfl
theorem kw_91 : Cond.selects "SignalTableModel" yX12_mayNow yX12_mayNow ∈ lwg := wu_mem (i := 91) (by decide +kernel) rfl
theorem kw_94 : Cond.selects "SignalTableModel" yX12_canPlay yX12_canPlay ∈ lwg := wu_mem (i := 94) (by decide +kernel) rfl
theorem kw_102 : Cond.selects "SignalTableModel" yX12_areCustoms yX12_areCustoms ∈ lwg := wu_mem (i := 102) (by decide +kernel) rfl
theorem kw_114 : Cond.selects "SignalTableModel" yX12_canAsk yX12_canAsk ∈ lwg := wu_mem (i := 114) (by decide +kernel) rfl
theorem kw_136 : Cond.selects "SignalTableModel" yX12_canMean yX12_canMean ∈ lwg := wu_mem (i := 136) (by decide +kernel) rfl
theorem kw_143 : Cond.selects "SignalTableModel" yX12_canGain yX12_canGain ∈ lwg := wu_mem (i := 143) (by decide +kernel) rfl
theorem kw_149 : Cond.selects "SignalTableModel" yX12_isCustom yX12_isCustom ∈ lwg := wu_mem (i := 149) (by decide +kernel) rfl
theorem kw_154 : Cond.initialized "SignalTable" ∈ lwg := wu_mem (i := 154) (by decide +kernel) rfl
theorem kw_163 : Cond.initialized "SignalTable$Game" ∈ lwg := wu_mem (i := 163) (by decide +kernel) rfl
theorem kw_169 : Cond.initialized "SignalTable$Openings" ∈ lwg := wu_mem (i := 169) (by decide +kernel) rfl
theorem kw_171 : Cond.initialized "SignalTableModel" ∈ lwg := wu_mem (i := 171) (by decide +kernel) rfl
theorem kw_191 : Cond.fieldLink "SignalTable" 358 "SignalTable$Laws" "suits" "I" ∈ lwg := wu_mem (i := 191) (by decide +kernel) rfl
theorem kw_194 : Cond.fieldLink "SignalTable" 361 "SignalTable$Laws" "ranks" "I" ∈ lwg := wu_mem (i := 194) (by decide +kernel) rfl
theorem kw_200 : Cond.fieldLink "SignalTable" 364 "SignalTable$Laws" "trump" "I" ∈ lwg := wu_mem (i := 200) (by decide +kernel) rfl
theorem kw_203 : Cond.fieldLink "SignalTable$Openings" 59 "SignalTable$Laws" "customs" "I" ∈ lwg := wu_mem (i := 203) (by decide +kernel) rfl
theorem kw_204 : Cond.fieldLink "SignalTable" 326 "SignalTable$Laws" "customs" "I" ∈ lwg := wu_mem (i := 204) (by decide +kernel) rfl
theorem kw_220 : Cond.fieldLink "SignalTable$Openings" 19 "SignalTable$Laws" "cards" "I" ∈ lwg := wu_mem (i := 220) (by decide +kernel) rfl
theorem kw_225 : Cond.fieldLink "SignalTable" 267 "SignalTable$Laws" "cards" "I" ∈ lwg := wu_mem (i := 225) (by decide +kernel) rfl
theorem kw_226 : Cond.fieldLink "SignalTable$Openings" 28 "SignalTable$Laws" "handSize" "I" ∈ lwg := wu_mem (i := 226) (by decide +kernel) rfl
theorem kw_230 : Cond.fieldLink "SignalTable" 154 "SignalTable$Laws" "handSize" "I" ∈ lwg := wu_mem (i := 230) (by decide +kernel) rfl
theorem kw_243 : Cond.fieldLink "SignalTable$Openings" 25 "SignalTable$Laws" "handCount" "I" ∈ lwg := wu_mem (i := 243) (by decide +kernel) rfl
theorem kw_388 : Cond.fieldLink "SignalTable" 130 "SignalTable$Reader" "place" "I" ∈ lwg := wu_mem (i := 388) (by decide +kernel) rfl
theorem kw_422 : Cond.fieldLink "SignalTable$Game" 57 "SignalTable$Game" "dealtOut" "Z" ∈ lwg := wu_mem (i := 422) (by decide +kernel) rfl
theorem kw_423 : Cond.fieldLink "SignalTable" 157 "SignalTable$Game" "dealtOut" "Z" ∈ lwg := wu_mem (i := 423) (by decide +kernel) rfl
theorem kw_433 : Cond.fieldLink "SignalTable$Game" 18 "SignalTable$Game" "turn" "I" ∈ lwg := wu_mem (i := 433) (by decide +kernel) rfl
theorem kw_437 : Cond.fieldLink "SignalTable" 177 "SignalTable$Game" "turn" "I" ∈ lwg := wu_mem (i := 437) (by decide +kernel) rfl
theorem kw_438 : Cond.fieldLink "SignalTable$Game" 61 "SignalTable$Game" "size" "I" ∈ lwg := wu_mem (i := 438) (by decide +kernel) rfl
theorem kw_443 : Cond.fieldLink "SignalTable" 161 "SignalTable$Game" "size" "I" ∈ lwg := wu_mem (i := 443) (by decide +kernel) rfl
theorem kw_670 : Cond.fieldLink "SignalTable" 333 "SignalTable$Books" "size" "I" ∈ lwg := wu_mem (i := 670) (by decide +kernel) rfl
theorem kw_684 : Cond.fieldLink "SignalTable$Openings" 9 "SignalTable$Openings" "laws" "LSignalTable$Laws;" ∈ lwg := wu_mem (i := 684) (by decide +kernel) rfl
theorem kw_708 : Cond.fieldLink "SignalTable" 104 "SignalTable" "tapeSize" "I" ∈ lwg := wu_mem (i := 708) (by decide +kernel) rfl
theorem kw_709 : Cond.fieldLink "SignalTable" 16 "SignalTable" "laws" "LSignalTable$Laws;" ∈ lwg := wu_mem (i := 709) (by decide +kernel) rfl
theorem kw_711 : Cond.fieldLink "SignalTable" 32 "SignalTable" "reader" "LSignalTable$Reader;" ∈ lwg := wu_mem (i := 711) (by decide +kernel) rfl
theorem kw_712 : Cond.fieldLink "SignalTable" 41 "SignalTable" "game" "LSignalTable$Game;" ∈ lwg := wu_mem (i := 712) (by decide +kernel) rfl
theorem kw_714 : Cond.fieldLink "SignalTable" 48 "SignalTable" "slots" "[LSignalTable$Game;" ∈ lwg := wu_mem (i := 714) (by decide +kernel) rfl
theorem kw_719 : Cond.fieldLink "SignalTable" 87 "SignalTable" "shelf" "LSignalTable$Books;" ∈ lwg := wu_mem (i := 719) (by decide +kernel) rfl
theorem kw_720 : Cond.fieldLink "SignalTable" 94 "SignalTable" "firstLeads" "LSignalTable$Openings;" ∈ lwg := wu_mem (i := 720) (by decide +kernel) rfl
theorem kw_971 : Cond.methodLink "SignalTable" 180 yX3_legal ∈ lwg := wu_mem (i := 971) (by decide +kernel) rfl
theorem kw_972 : Cond.instanceMethod yX3_legal ∈ lwg := wu_mem (i := 972) (by decide +kernel) rfl
theorem kw_973 : Cond.selects "SignalTable$Game" yX3_legal yX3_legal ∈ lwg := wu_mem (i := 973) (by decide +kernel) rfl
theorem kw_974 : Cond.code yX3_legal cX3_legal 3 (some .int) ∈ lwg := wu_mem (i := 974) (by decide +kernel) rfl
theorem kw_983 : Cond.methodLink "SignalTable" 183 yX11_isInHand ∈ lwg := wu_mem (i := 983) (by decide +kernel) rfl
theorem kw_985 : Cond.instanceMethod yX11_isInHand ∈ lwg := wu_mem (i := 985) (by decide +kernel) rfl
theorem kw_986 : Cond.code yX11_isInHand cX11_isInHand 2 (some .boolean) ∈ lwg := wu_mem (i := 986) (by decide +kernel) rfl
theorem kw_1069 : Cond.methodLink "SignalTable" 210 yX3_wonBy ∈ lwg := wu_mem (i := 1069) (by decide +kernel) rfl
theorem kw_1070 : Cond.instanceMethod yX3_wonBy ∈ lwg := wu_mem (i := 1070) (by decide +kernel) rfl
theorem kw_1071 : Cond.selects "SignalTable$Game" yX3_wonBy yX3_wonBy ∈ lwg := wu_mem (i := 1071) (by decide +kernel) rfl
theorem kw_1072 : Cond.code yX3_wonBy cX3_wonBy 4 (some .int) ∈ lwg := wu_mem (i := 1072) (by decide +kernel) rfl
theorem kw_1086 : Cond.methodLink "SignalTable" 222 yX11_areCustoms ∈ lwg := wu_mem (i := 1086) (by decide +kernel) rfl
theorem kw_1088 : Cond.instanceMethod yX11_areCustoms ∈ lwg := wu_mem (i := 1088) (by decide +kernel) rfl
theorem kw_1089 : Cond.code yX11_areCustoms cX11_areCustoms 2 (some .boolean) ∈ lwg := wu_mem (i := 1089) (by decide +kernel) rfl
theorem kw_1094 : Cond.methodLink "SignalTable" 231 yX11_canSee ∈ lwg := wu_mem (i := 1094) (by decide +kernel) rfl
theorem kw_1096 : Cond.instanceMethod yX11_canSee ∈ lwg := wu_mem (i := 1096) (by decide +kernel) rfl
theorem kw_1097 : Cond.code yX11_canSee cX11_canSee 3 (some .boolean) ∈ lwg := wu_mem (i := 1097) (by decide +kernel) rfl
theorem kw_1259 : Cond.methodLink "SignalTable" 273 yX11_refusal ∈ lwg := wu_mem (i := 1259) (by decide +kernel) rfl
theorem kw_1261 : Cond.instanceMethod yX11_refusal ∈ lwg := wu_mem (i := 1261) (by decide +kernel) rfl
theorem kw_1262 : Cond.code yX11_refusal cX11_refusal 2 (some .int) ∈ lwg := wu_mem (i := 1262) (by decide +kernel) rfl
theorem kw_1368 : Cond.constantLong "SignalTable" 311 (-1000000) ∈ lwg := wu_mem (i := 1368) (by decide +kernel) rfl
theorem kw_1379 : Cond.methodLink "SignalTable" 319 yX11_canGain ∈ lwg := wu_mem (i := 1379) (by decide +kernel) rfl
theorem kw_1381 : Cond.instanceMethod yX11_canGain ∈ lwg := wu_mem (i := 1381) (by decide +kernel) rfl
theorem kw_1382 : Cond.code yX11_canGain cX11_canGain 2 (some .boolean) ∈ lwg := wu_mem (i := 1382) (by decide +kernel) rfl
theorem kw_1414 : Cond.methodLink "SignalTable" 329 yX3_isOver ∈ lwg := wu_mem (i := 1414) (by decide +kernel) rfl
theorem kw_1415 : Cond.instanceMethod yX3_isOver ∈ lwg := wu_mem (i := 1415) (by decide +kernel) rfl
theorem kw_1416 : Cond.selects "SignalTable$Game" yX3_isOver yX3_isOver ∈ lwg := wu_mem (i := 1416) (by decide +kernel) rfl
theorem kw_1417 : Cond.code yX3_isOver cX3_isOver 1 (some .boolean) ∈ lwg := wu_mem (i := 1417) (by decide +kernel) rfl
theorem kw_1437 : Cond.methodLink "SignalTable" 340 yX11_isCustom ∈ lwg := wu_mem (i := 1437) (by decide +kernel) rfl
theorem kw_1439 : Cond.instanceMethod yX11_isCustom ∈ lwg := wu_mem (i := 1439) (by decide +kernel) rfl
theorem kw_1440 : Cond.code yX11_isCustom cX11_isCustom 2 (some .boolean) ∈ lwg := wu_mem (i := 1440) (by decide +kernel) rfl
theorem kw_1459 : Cond.methodLink "SignalTable$Openings" 48 yX7_handsWithOneCard ∈ lwg := wu_mem (i := 1459) (by decide +kernel) rfl
theorem kw_1461 : Cond.instanceMethod yX7_handsWithOneCard ∈ lwg := wu_mem (i := 1461) (by decide +kernel) rfl
theorem kw_1462 : Cond.code yX7_handsWithOneCard cX7_handsWithOneCard 1 (some .int) ∈ lwg := wu_mem (i := 1462) (by decide +kernel) rfl
theorem kw_1480 : Cond.methodLink "SignalTable" 355 yX7_untouched ∈ lwg := wu_mem (i := 1480) (by decide +kernel) rfl
theorem kw_1481 : Cond.instanceMethod yX7_untouched ∈ lwg := wu_mem (i := 1481) (by decide +kernel) rfl
theorem kw_1482 : Cond.selects "SignalTable$Openings" yX7_untouched yX7_untouched ∈ lwg := wu_mem (i := 1482) (by decide +kernel) rfl
theorem kw_1483 : Cond.code yX7_untouched cX7_untouched 5 (some .int) ∈ lwg := wu_mem (i := 1483) (by decide +kernel) rfl
theorem kw_1496 : Cond.methodLink "SignalTable" 367 yX11_slotsInUse ∈ lwg := wu_mem (i := 1496) (by decide +kernel) rfl
theorem kw_1498 : Cond.instanceMethod yX11_slotsInUse ∈ lwg := wu_mem (i := 1498) (by decide +kernel) rfl
theorem kw_1499 : Cond.code yX11_slotsInUse cX11_slotsInUse 3 (some .int) ∈ lwg := wu_mem (i := 1499) (by decide +kernel) rfl
theorem kw_1516 : Cond.fieldLink "SignalTableModel" 206 "SignalTableModel" "taped" "I" ∈ lwg := wu_mem (i := 1516) (by decide +kernel) rfl
theorem kw_1531 : Cond.fieldLink "SignalTableModel" 37 "SignalTableModel" "place" "I" ∈ lwg := wu_mem (i := 1531) (by decide +kernel) rfl
theorem kw_1532 : Cond.fieldLink "SignalTableModel" 274 "SignalTableModel" "live" "I" ∈ lwg := wu_mem (i := 1532) (by decide +kernel) rfl
theorem kw_1536 : Cond.fieldLink "SignalTableModel" 43 "SignalTableModel" "suits" "[I" ∈ lwg := wu_mem (i := 1536) (by decide +kernel) rfl
theorem kw_1537 : Cond.fieldLink "SignalTableModel" 46 "SignalTableModel" "ranks" "[I" ∈ lwg := wu_mem (i := 1537) (by decide +kernel) rfl
theorem kw_1538 : Cond.fieldLink "SignalTableModel" 49 "SignalTableModel" "trump" "[I" ∈ lwg := wu_mem (i := 1538) (by decide +kernel) rfl
theorem kw_1539 : Cond.fieldLink "SignalTableModel" 52 "SignalTableModel" "customs" "[I" ∈ lwg := wu_mem (i := 1539) (by decide +kernel) rfl
theorem kw_1559 : Cond.fieldLink "SignalTableModel" 292 "SignalTableModel" "isDealt" "Z" ∈ lwg := wu_mem (i := 1559) (by decide +kernel) rfl
theorem kw_1562 : Cond.fieldLink "SignalTableModel" 296 "SignalTableModel" "played" "I" ∈ lwg := wu_mem (i := 1562) (by decide +kernel) rfl
theorem kw_1600 : Cond.fieldLink "SignalTableModel" 299 "SignalTableModel" "books" "I" ∈ lwg := wu_mem (i := 1600) (by decide +kernel) rfl
theorem kw_1603 : Cond.fieldLink "SignalTableModel" 184 "SignalTableModel" "isHeld" "[Z" ∈ lwg := wu_mem (i := 1603) (by decide +kernel) rfl
theorem kw_1863 : Cond.methodLink "SignalTableModel" 310 yX12_in ∈ lwg := wu_mem (i := 1863) (by decide +kernel) rfl
theorem kw_1864 : Cond.static yX12_in ∈ lwg := wu_mem (i := 1864) (by decide +kernel) rfl
theorem kw_1865 : Cond.code yX12_in cX12_in 3 (some .boolean) ∈ lwg := wu_mem (i := 1865) (by decide +kernel) rfl
theorem kw_1906 : Cond.methodLink "SignalTableModel" 351 yX12_cards ∈ lwg := wu_mem (i := 1906) (by decide +kernel) rfl
theorem kw_1908 : Cond.instanceMethod yX12_cards ∈ lwg := wu_mem (i := 1908) (by decide +kernel) rfl
theorem kw_1909 : Cond.code yX12_cards cX12_cards 1 (some .int) ∈ lwg := wu_mem (i := 1909) (by decide +kernel) rfl
theorem kw_1917 : Cond.methodLink "SignalTableModel" 365 yX12_handSize ∈ lwg := wu_mem (i := 1917) (by decide +kernel) rfl
theorem kw_1919 : Cond.instanceMethod yX12_handSize ∈ lwg := wu_mem (i := 1919) (by decide +kernel) rfl
theorem kw_1920 : Cond.code yX12_handSize cX12_handSize 1 (some .int) ∈ lwg := wu_mem (i := 1920) (by decide +kernel) rfl
theorem kw_1955 : Cond.methodLink "SignalTableModel" 396 yX12_turnNow ∈ lwg := wu_mem (i := 1955) (by decide +kernel) rfl
theorem kw_1957 : Cond.instanceMethod yX12_turnNow ∈ lwg := wu_mem (i := 1957) (by decide +kernel) rfl
theorem kw_1958 : Cond.code yX12_turnNow cX12_turnNow 1 (some .int) ∈ lwg := wu_mem (i := 1958) (by decide +kernel) rfl
theorem kw_1971 : Cond.methodLink "SignalTableModel" 386 yX12_trumpSuit ∈ lwg := wu_mem (i := 1971) (by decide +kernel) rfl
theorem kw_1973 : Cond.instanceMethod yX12_trumpSuit ∈ lwg := wu_mem (i := 1973) (by decide +kernel) rfl
theorem kw_1974 : Cond.code yX12_trumpSuit cX12_trumpSuit 1 (some .int) ∈ lwg := wu_mem (i := 1974) (by decide +kernel) rfl
theorem kw_1979 : Cond.methodLink "SignalTableModel" 405 yX12_mayNow ∈ lwg := wu_mem (i := 1979) (by decide +kernel) rfl
theorem kw_1981 : Cond.instanceMethod yX12_mayNow ∈ lwg := wu_mem (i := 1981) (by decide +kernel) rfl
theorem kw_1982 : Cond.code yX12_mayNow cX12_mayNow 4 (some .int) ∈ lwg := wu_mem (i := 1982) (by decide +kernel) rfl
theorem kw_1995 : Cond.methodLink "SignalTableModel" 411 yX12_canPlay ∈ lwg := wu_mem (i := 1995) (by decide +kernel) rfl
theorem kw_1997 : Cond.instanceMethod yX12_canPlay ∈ lwg := wu_mem (i := 1997) (by decide +kernel) rfl
theorem kw_1998 : Cond.code yX12_canPlay cX12_canPlay 3 (some .boolean) ∈ lwg := wu_mem (i := 1998) (by decide +kernel) rfl
theorem kw_2055 : Cond.methodLink "SignalTableModel" 455 yX12_areCustoms ∈ lwg := wu_mem (i := 2055) (by decide +kernel) rfl
theorem kw_2057 : Cond.instanceMethod yX12_areCustoms ∈ lwg := wu_mem (i := 2057) (by decide +kernel) rfl
theorem kw_2058 : Cond.code yX12_areCustoms cX12_areCustoms 2 (some .boolean) ∈ lwg := wu_mem (i := 2058) (by decide +kernel) rfl
theorem kw_2107 : Cond.methodLink "SignalTableModel" 502 yX12_canAsk ∈ lwg := wu_mem (i := 2107) (by decide +kernel) rfl
theorem kw_2109 : Cond.instanceMethod yX12_canAsk ∈ lwg := wu_mem (i := 2109) (by decide +kernel) rfl
theorem kw_2110 : Cond.code yX12_canAsk cX12_canAsk 3 (some .boolean) ∈ lwg := wu_mem (i := 2110) (by decide +kernel) rfl
theorem kw_2226 : Cond.methodLink "SignalTableModel" 572 yX12_canMean ∈ lwg := wu_mem (i := 2226) (by decide +kernel) rfl
theorem kw_2228 : Cond.instanceMethod yX12_canMean ∈ lwg := wu_mem (i := 2228) (by decide +kernel) rfl
theorem kw_2229 : Cond.code yX12_canMean cX12_canMean 2 (some .boolean) ∈ lwg := wu_mem (i := 2229) (by decide +kernel) rfl
theorem kw_2230 : Cond.constantLong "SignalTableModel" 575 (-1) ∈ lwg := wu_mem (i := 2230) (by decide +kernel) rfl
theorem kw_2287 : Cond.constantLong "SignalTableModel" 594 (-1000000) ∈ lwg := wu_mem (i := 2287) (by decide +kernel) rfl
theorem kw_2292 : Cond.methodLink "SignalTableModel" 614 yX12_canGain ∈ lwg := wu_mem (i := 2292) (by decide +kernel) rfl
theorem kw_2294 : Cond.instanceMethod yX12_canGain ∈ lwg := wu_mem (i := 2294) (by decide +kernel) rfl
theorem kw_2295 : Cond.code yX12_canGain cX12_canGain 2 (some .boolean) ∈ lwg := wu_mem (i := 2295) (by decide +kernel) rfl
theorem kw_2334 : Cond.methodLink "SignalTableModel" 630 yX12_isCustom ∈ lwg := wu_mem (i := 2334) (by decide +kernel) rfl
theorem kw_2336 : Cond.instanceMethod yX12_isCustom ∈ lwg := wu_mem (i := 2336) (by decide +kernel) rfl
theorem kw_2337 : Cond.code yX12_isCustom cX12_isCustom 2 (some .boolean) ∈ lwg := wu_mem (i := 2337) (by decide +kernel) rfl
theorem caV_SignalTable_Openings_48 : CaV "SignalTable$Openings" RX7 48 yX7_handsWithOneCard cX7_handsWithOneCard 1 (some .int) 0 := ⟨kw_1459, kw_1461, kw_60, kw_169, kw_1462, rfl, by decide +kernel, by decide +kernel, by decide +kernel⟩
theorem caV_SignalTable_222 : CaV "SignalTable" RX11 222 yX11_areCustoms cX11_areCustoms 2 (some .boolean) 1 := ⟨kw_1086, kw_1088, kw_30, kw_154, kw_1089, rfl, by decide +kernel, by decide +kernel, by decide +kernel⟩
theorem caV_SignalTable_180 : CaV "SignalTable" RX3 180 yX3_legal cX3_legal 3 (some .int) 0 := ⟨kw_971, kw_972, kw_973, kw_163, kw_974, rfl, by decide +kernel, by decide +kernel, by decide +kernel⟩
theorem caV_SignalTable_183 : CaV "SignalTable" RX11 183 yX11_isInHand cX11_isInHand 2 (some .boolean) 1 := ⟨kw_983, kw_985, kw_24, kw_154, kw_986, rfl, by decide +kernel, by decide +kernel, by decide +kernel⟩
theorem caV_SignalTable_210 : CaV "SignalTable" RX3 210 yX3_wonBy cX3_wonBy 4 (some .int) 1 := ⟨kw_1069, kw_1070, kw_1071, kw_163, kw_1072, rfl, by decide +kernel, by decide +kernel, by decide +kernel⟩
theorem caV_SignalTable_231 : CaV "SignalTable" RX11 231 yX11_canSee cX11_canSee 3 (some .boolean) 2 := ⟨kw_1094, kw_1096, kw_31, kw_154, kw_1097, rfl, by decide +kernel, by decide +kernel, by decide +kernel⟩
theorem caV_SignalTable_273 : CaV "SignalTable" RX11 273 yX11_refusal cX11_refusal 2 (some .int) 1 := ⟨kw_1259, kw_1261, kw_50, kw_154, kw_1262, rfl, by decide +kernel, by decide +kernel, by decide +kernel⟩
theorem caV_SignalTable_319 : CaV "SignalTable" RX11 319 yX11_canGain cX11_canGain 2 (some .boolean) 1 := ⟨kw_1379, kw_1381, kw_55, kw_154, kw_1382, rfl, by decide +kernel, by decide +kernel, by decide +kernel⟩
theorem caV_SignalTable_329 : CaV "SignalTable" RX3 329 yX3_isOver cX3_isOver 1 (some .boolean) 0 := ⟨kw_1414, kw_1415, kw_1416, kw_163, kw_1417, rfl, by decide +kernel, by decide +kernel, by decide +kernel⟩
theorem caV_SignalTable_340 : CaV "SignalTable" RX11 340 yX11_isCustom cX11_isCustom 2 (some .boolean) 1 := ⟨kw_1437, kw_1439, kw_58, kw_154, kw_1440, rfl, by decide +kernel, by decide +kernel, by decide +kernel⟩
theorem caV_SignalTable_355 : CaV "SignalTable" RX7 355 yX7_untouched cX7_untouched 5 (some .int) 0 := ⟨kw_1480, kw_1481, kw_1482, kw_169, kw_1483, rfl, by decide +kernel, by decide +kernel, by decide +kernel⟩
theorem caV_SignalTable_367 : CaV "SignalTable" RX11 367 yX11_slotsInUse cX11_slotsInUse 3 (some .int) 0 := ⟨kw_1496, kw_1498, kw_61, kw_154, kw_1499, rfl, by decide +kernel, by decide +kernel, by decide +kernel⟩
theorem caV_SignalTableModel_351 : CaV "SignalTableModel" RX12 351 yX12_cards cX12_cards 1 (some .int) 0 := ⟨kw_1906, kw_1908, kw_81, kw_171, kw_1909, rfl, by decide +kernel, by decide +kernel, by decide +kernel⟩
theorem caS_SignalTableModel_310 : CaS "SignalTableModel" 310 yX12_in cX12_in 3 (some .boolean) 3 := ⟨kw_1863, kw_1864, kw_171, kw_1865, by decide +kernel, by decide +kernel, by decide +kernel⟩
theorem caV_SignalTableModel_396 : CaV "SignalTableModel" RX12 396 yX12_turnNow cX12_turnNow 1 (some .int) 0 := ⟨kw_1955, kw_1957, kw_86, kw_171, kw_1958, rfl, by decide +kernel, by decide +kernel, by decide +kernel⟩
theorem caV_SignalTableModel_405 : CaV "SignalTableModel" RX12 405 yX12_mayNow cX12_mayNow 4 (some .int) 0 := ⟨kw_1979, kw_1981, kw_91, kw_171, kw_1982, rfl, by decide +kernel, by decide +kernel, by decide +kernel⟩
theorem caV_SignalTableModel_411 : CaV "SignalTableModel" RX12 411 yX12_canPlay cX12_canPlay 3 (some .boolean) 1 := ⟨kw_1995, kw_1997, kw_94, kw_171, kw_1998, rfl, by decide +kernel, by decide +kernel, by decide +kernel⟩
theorem caV_SignalTableModel_502 : CaV "SignalTableModel" RX12 502 yX12_canAsk cX12_canAsk 3 (some .boolean) 2 := ⟨kw_2107, kw_2109, kw_114, kw_171, kw_2110, rfl, by decide +kernel, by decide +kernel, by decide +kernel⟩
theorem caV_SignalTableModel_572 : CaV "SignalTableModel" RX12 572 yX12_canMean cX12_canMean 2 (some .boolean) 1 := ⟨kw_2226, kw_2228, kw_136, kw_171, kw_2229, rfl, by decide +kernel, by decide +kernel, by decide +kernel⟩
theorem caV_SignalTableModel_455 : CaV "SignalTableModel" RX12 455 yX12_areCustoms cX12_areCustoms 2 (some .boolean) 1 := ⟨kw_2055, kw_2057, kw_102, kw_171, kw_2058, rfl, by decide +kernel, by decide +kernel, by decide +kernel⟩
theorem caV_SignalTableModel_614 : CaV "SignalTableModel" RX12 614 yX12_canGain cX12_canGain 2 (some .boolean) 1 := ⟨kw_2292, kw_2294, kw_143, kw_171, kw_2295, rfl, by decide +kernel, by decide +kernel, by decide +kernel⟩
theorem caV_SignalTableModel_630 : CaV "SignalTableModel" RX12 630 yX12_isCustom cX12_isCustom 2 (some .boolean) 1 := ⟨kw_2334, kw_2336, kw_149, kw_171, kw_2337, rfl, by decide +kernel, by decide +kernel, by decide +kernel⟩
theorem caV_SignalTableModel_365 : CaV "SignalTableModel" RX12 365 yX12_handSize cX12_handSize 1 (some .int) 0 := ⟨kw_1917, kw_1919, kw_82, kw_171, kw_1920, rfl, by decide +kernel, by decide +kernel, by decide +kernel⟩
theorem caV_SignalTableModel_386 : CaV "SignalTableModel" RX12 386 yX12_trumpSuit cX12_trumpSuit 1 (some .int) 0 := ⟨kw_1971, kw_1973, kw_90, kw_171, kw_1974, rfl, by decide +kernel, by decide +kernel, by decide +kernel⟩
theorem dX11_after_0 : decode cX11_after 0 = .ok (.aload_n 0, 1) := by decide +kernel
theorem dX11_after_1 : decode cX11_after 1 = .ok (.iload_n 1, 1) := by decide +kernel
theorem dX11_after_2 : decode cX11_after 2 = .ok (.iload_n 3, 1) := by decide +kernel
theorem dX11_after_3 : decode cX11_after 3 = .ok (.invokevirtual 231, 3) := by decide +kernel
theorem dX11_after_6 : decode cX11_after 6 = .ok (.ifCond .eq 18, 3) := by decide +kernel
theorem dX11_after_24 : decode cX11_after 24 = .ok (.iconst (-1), 1) := by decide +kernel
theorem dX11_after_25 : decode cX11_after 25 = .ok (.ireturn, 1) := by decide +kernel
theorem dX11_areCustoms_0 : decode cX11_areCustoms 0 = .ok (.iload_n 1, 1) := by decide +kernel
theorem dX11_areCustoms_1 : decode cX11_areCustoms 1 = .ok (.ifCond .lt 20, 3) := by decide +kernel
theorem dX11_areCustoms_4 : decode cX11_areCustoms 4 = .ok (.iload_n 1, 1) := by decide +kernel
theorem dX11_areCustoms_5 : decode cX11_areCustoms 5 = .ok (.iconst 1, 1) := by decide +kernel
theorem dX11_areCustoms_6 : decode cX11_areCustoms 6 = .ok (.aload_n 0, 1) := by decide +kernel
theorem dX11_areCustoms_7 : decode cX11_areCustoms 7 = .ok (.getfield 16, 3) := by decide +kernel
theorem dX11_areCustoms_10 : decode cX11_areCustoms 10 = .ok (.getfield 326, 3) := by decide +kernel
theorem dX11_areCustoms_13 : decode cX11_areCustoms 13 = .ok (.ishl, 1) := by decide +kernel
theorem dX11_areCustoms_14 : decode cX11_areCustoms 14 = .ok (.if_icmp .ge 7, 3) := by decide +kernel
theorem dX11_areCustoms_17 : decode cX11_areCustoms 17 = .ok (.iconst 1, 1) := by decide +kernel
theorem dX11_areCustoms_18 : decode cX11_areCustoms 18 = .ok (.goto 4, 3) := by decide +kernel
theorem dX11_areCustoms_21 : decode cX11_areCustoms 21 = .ok (.iconst 0, 1) := by decide +kernel
theorem dX11_areCustoms_22 : decode cX11_areCustoms 22 = .ok (.ireturn, 1) := by decide +kernel
theorem dX11_bestSet_0 : decode cX11_bestSet 0 = .ok (.iload_n 3, 1) := by decide +kernel
theorem dX11_bestSet_1 : decode cX11_bestSet 1 = .ok (.ifCond .lt 16, 3) := by decide +kernel
theorem dX11_bestSet_4 : decode cX11_bestSet 4 = .ok (.iload_n 3, 1) := by decide +kernel
theorem dX11_bestSet_5 : decode cX11_bestSet 5 = .ok (.iconst 1, 1) := by decide +kernel
theorem dX11_bestSet_6 : decode cX11_bestSet 6 = .ok (.if_icmp .gt 11, 3) := by decide +kernel
theorem dX11_bestSet_9 : decode cX11_bestSet 9 = .ok (.aload_n 0, 1) := by decide +kernel
theorem dX11_bestSet_10 : decode cX11_bestSet 10 = .ok (.iload_n 2, 1) := by decide +kernel
theorem dX11_bestSet_11 : decode cX11_bestSet 11 = .ok (.invokevirtual 319, 3) := by decide +kernel
theorem dX11_bestSet_14 : decode cX11_bestSet 14 = .ok (.ifCond .ne 7, 3) := by decide +kernel
theorem dX11_bestSet_17 : decode cX11_bestSet 17 = .ok (.sipush (-1000), 3) := by decide +kernel
theorem dX11_bestSet_20 : decode cX11_bestSet 20 = .ok (.ireturn, 1) := by decide +kernel
theorem dX11_book_0 : decode cX11_book 0 = .ok (.aload_n 0, 1) := by decide +kernel
theorem dX11_book_1 : decode cX11_book 1 = .ok (.getfield 41, 3) := by decide +kernel
theorem dX11_book_4 : decode cX11_book 4 = .ok (.invokevirtual 329, 3) := by decide +kernel
theorem dX11_book_7 : decode cX11_book 7 = .ok (.ifCond .eq 15, 3) := by decide +kernel
theorem dX11_book_22 : decode cX11_book 22 = .ok (.iconst (-1), 1) := by decide +kernel
theorem dX11_book_23 : decode cX11_book 23 = .ok (.ireturn, 1) := by decide +kernel
theorem dX11_canBe_0 : decode cX11_canBe 0 = .ok (.aload_n 0, 1) := by decide +kernel
theorem dX11_canBe_1 : decode cX11_canBe 1 = .ok (.iload_n 1, 1) := by decide +kernel
theorem dX11_canBe_2 : decode cX11_canBe 2 = .ok (.iload_n 2, 1) := by decide +kernel
theorem dX11_canBe_3 : decode cX11_canBe 3 = .ok (.invokevirtual 231, 3) := by decide +kernel
theorem dX11_canBe_6 : decode cX11_canBe 6 = .ok (.ifCond .ne 5, 3) := by decide +kernel
theorem dX11_canBe_9 : decode cX11_canBe 9 = .ok (.iconst (-1), 1) := by decide +kernel
theorem dX11_canBe_10 : decode cX11_canBe 10 = .ok (.ireturn, 1) := by decide +kernel
theorem dX11_canGain_0 : decode cX11_canGain 0 = .ok (.iload_n 1, 1) := by decide +kernel
theorem dX11_canGain_1 : decode cX11_canGain 1 = .ok (.iconst 1, 1) := by decide +kernel
theorem dX11_canGain_2 : decode cX11_canGain 2 = .ok (.if_icmp .lt 25, 3) := by decide +kernel
theorem dX11_canGain_5 : decode cX11_canGain 5 = .ok (.iload_n 1, 1) := by decide +kernel
theorem dX11_canGain_6 : decode cX11_canGain 6 = .ok (.bipush 20, 2) := by decide +kernel
theorem dX11_canGain_8 : decode cX11_canGain 8 = .ok (.if_icmp .gt 19, 3) := by decide +kernel
theorem dX11_canGain_11 : decode cX11_canGain 11 = .ok (.aload_n 0, 1) := by decide +kernel
theorem dX11_canGain_12 : decode cX11_canGain 12 = .ok (.getfield 16, 3) := by decide +kernel
theorem dX11_canGain_15 : decode cX11_canGain 15 = .ok (.getfield 267, 3) := by decide +kernel
theorem dX11_canGain_18 : decode cX11_canGain 18 = .ok (.bipush 8, 2) := by decide +kernel
theorem dX11_canGain_20 : decode cX11_canGain 20 = .ok (.if_icmp .ne 7, 3) := by decide +kernel
theorem dX11_canGain_27 : decode cX11_canGain 27 = .ok (.iconst 0, 1) := by decide +kernel
theorem dX11_canGain_28 : decode cX11_canGain 28 = .ok (.ireturn, 1) := by decide +kernel
theorem dX11_canSee_0 : decode cX11_canSee 0 = .ok (.aload_n 0, 1) := by decide +kernel
theorem dX11_canSee_1 : decode cX11_canSee 1 = .ok (.getfield 41, 3) := by decide +kernel
theorem dX11_canSee_4 : decode cX11_canSee 4 = .ok (.getfield 157, 3) := by decide +kernel
theorem dX11_canSee_7 : decode cX11_canSee 7 = .ok (.ifCond .eq 23, 3) := by decide +kernel
theorem dX11_canSee_30 : decode cX11_canSee 30 = .ok (.iconst 0, 1) := by decide +kernel
theorem dX11_canSee_31 : decode cX11_canSee 31 = .ok (.ireturn, 1) := by decide +kernel
theorem dX11_card_0 : decode cX11_card 0 = .ok (.iload_n 1, 1) := by decide +kernel
theorem dX11_card_1 : decode cX11_card 1 = .ok (.ifCond .lt 14, 3) := by decide +kernel
theorem dX11_card_4 : decode cX11_card 4 = .ok (.iload_n 1, 1) := by decide +kernel
theorem dX11_card_5 : decode cX11_card 5 = .ok (.aload_n 0, 1) := by decide +kernel
theorem dX11_card_6 : decode cX11_card 6 = .ok (.getfield 41, 3) := by decide +kernel
theorem dX11_card_9 : decode cX11_card 9 = .ok (.getfield 161, 3) := by decide +kernel
theorem dX11_card_12 : decode cX11_card 12 = .ok (.if_icmp .lt 5, 3) := by decide +kernel
theorem dX11_card_15 : decode cX11_card 15 = .ok (.iconst (-1), 1) := by decide +kernel
theorem dX11_card_16 : decode cX11_card 16 = .ok (.ireturn, 1) := by decide +kernel
theorem dX11_choice_0 : decode cX11_choice 0 = .ok (.aload_n 0, 1) := by decide +kernel
theorem dX11_choice_1 : decode cX11_choice 1 = .ok (.iload_n 1, 1) := by decide +kernel
theorem dX11_choice_2 : decode cX11_choice 2 = .ok (.invokevirtual 273, 3) := by decide +kernel
theorem dX11_choice_5 : decode cX11_choice 5 = .ok (.istore_n 2, 1) := by decide +kernel
theorem dX11_choice_6 : decode cX11_choice 6 = .ok (.iload_n 2, 1) := by decide +kernel
theorem dX11_choice_7 : decode cX11_choice 7 = .ok (.ifCond .eq 7, 3) := by decide +kernel
theorem dX11_choice_10 : decode cX11_choice 10 = .ok (.iload_n 2, 1) := by decide +kernel
theorem dX11_choice_11 : decode cX11_choice 11 = .ok (.goto 22, 3) := by decide +kernel
theorem dX11_choice_33 : decode cX11_choice 33 = .ok (.ireturn, 1) := by decide +kernel
theorem dX11_count_0 : decode cX11_count 0 = .ok (.iload_n 1, 1) := by decide +kernel
theorem dX11_count_1 : decode cX11_count 1 = .ok (.tableswitch 147 0 8 #[51, 59, 67, 75, 98, 106, 129, 137, 142], 51) := by decide +kernel
theorem dX11_count_52 : decode cX11_count 52 = .ok (.aload_n 0, 1) := by decide +kernel
theorem dX11_count_53 : decode cX11_count 53 = .ok (.getfield 16, 3) := by decide +kernel
theorem dX11_count_56 : decode cX11_count 56 = .ok (.getfield 358, 3) := by decide +kernel
theorem dX11_count_59 : decode cX11_count 59 = .ok (.ireturn, 1) := by decide +kernel
theorem dX11_count_60 : decode cX11_count 60 = .ok (.aload_n 0, 1) := by decide +kernel
theorem dX11_count_61 : decode cX11_count 61 = .ok (.getfield 16, 3) := by decide +kernel
theorem dX11_count_64 : decode cX11_count 64 = .ok (.getfield 361, 3) := by decide +kernel
theorem dX11_count_67 : decode cX11_count 67 = .ok (.ireturn, 1) := by decide +kernel
theorem dX11_count_68 : decode cX11_count 68 = .ok (.aload_n 0, 1) := by decide +kernel
theorem dX11_count_69 : decode cX11_count 69 = .ok (.getfield 16, 3) := by decide +kernel
theorem dX11_count_72 : decode cX11_count 72 = .ok (.getfield 154, 3) := by decide +kernel
theorem dX11_count_75 : decode cX11_count 75 = .ok (.ireturn, 1) := by decide +kernel
theorem dX11_count_76 : decode cX11_count 76 = .ok (.aload_n 0, 1) := by decide +kernel
theorem dX11_count_77 : decode cX11_count 77 = .ok (.getfield 16, 3) := by decide +kernel
theorem dX11_count_80 : decode cX11_count 80 = .ok (.getfield 364, 3) := by decide +kernel
theorem dX11_count_83 : decode cX11_count 83 = .ok (.ifCond .ge 8, 3) := by decide +kernel
theorem dX11_count_86 : decode cX11_count 86 = .ok (.bipush (-2), 2) := by decide +kernel
theorem dX11_count_88 : decode cX11_count 88 = .ok (.goto 10, 3) := by decide +kernel
theorem dX11_count_98 : decode cX11_count 98 = .ok (.ireturn, 1) := by decide +kernel
theorem dX11_count_99 : decode cX11_count 99 = .ok (.aload_n 0, 1) := by decide +kernel
theorem dX11_count_100 : decode cX11_count 100 = .ok (.getfield 16, 3) := by decide +kernel
theorem dX11_count_103 : decode cX11_count 103 = .ok (.getfield 326, 3) := by decide +kernel
theorem dX11_count_106 : decode cX11_count 106 = .ok (.ireturn, 1) := by decide +kernel
theorem dX11_count_107 : decode cX11_count 107 = .ok (.aload_n 0, 1) := by decide +kernel
theorem dX11_count_108 : decode cX11_count 108 = .ok (.getfield 41, 3) := by decide +kernel
theorem dX11_count_111 : decode cX11_count 111 = .ok (.getfield 157, 3) := by decide +kernel
theorem dX11_count_114 : decode cX11_count 114 = .ok (.ifCond .eq 13, 3) := by decide +kernel
theorem dX11_count_127 : decode cX11_count 127 = .ok (.bipush (-2), 2) := by decide +kernel
theorem dX11_count_129 : decode cX11_count 129 = .ok (.ireturn, 1) := by decide +kernel
theorem dX11_count_130 : decode cX11_count 130 = .ok (.aload_n 0, 1) := by decide +kernel
theorem dX11_count_131 : decode cX11_count 131 = .ok (.getfield 87, 3) := by decide +kernel
theorem dX11_count_134 : decode cX11_count 134 = .ok (.getfield 333, 3) := by decide +kernel
theorem dX11_count_137 : decode cX11_count 137 = .ok (.ireturn, 1) := by decide +kernel
theorem dX11_count_138 : decode cX11_count 138 = .ok (.aload_n 0, 1) := by decide +kernel
theorem dX11_count_139 : decode cX11_count 139 = .ok (.getfield 104, 3) := by decide +kernel
theorem dX11_count_142 : decode cX11_count 142 = .ok (.ireturn, 1) := by decide +kernel
theorem dX11_count_143 : decode cX11_count 143 = .ok (.aload_n 0, 1) := by decide +kernel
theorem dX11_count_144 : decode cX11_count 144 = .ok (.invokevirtual 367, 3) := by decide +kernel
theorem dX11_count_147 : decode cX11_count 147 = .ok (.ireturn, 1) := by decide +kernel
theorem dX11_count_148 : decode cX11_count 148 = .ok (.iload_n 1, 1) := by decide +kernel
theorem dX11_count_149 : decode cX11_count 149 = .ok (.bipush 10, 2) := by decide +kernel
theorem dX11_count_151 : decode cX11_count 151 = .ok (.if_icmp .lt 45, 3) := by decide +kernel
theorem dX11_count_154 : decode cX11_count 154 = .ok (.aload_n 0, 1) := by decide +kernel
theorem dX11_count_155 : decode cX11_count 155 = .ok (.iload_n 1, 1) := by decide +kernel
theorem dX11_count_156 : decode cX11_count 156 = .ok (.bipush 10, 2) := by decide +kernel
theorem dX11_count_158 : decode cX11_count 158 = .ok (.isub, 1) := by decide +kernel
theorem dX11_count_159 : decode cX11_count 159 = .ok (.invokevirtual 340, 3) := by decide +kernel
theorem dX11_count_162 : decode cX11_count 162 = .ok (.ifCond .eq 34, 3) := by decide +kernel
theorem dX11_count_196 : decode cX11_count 196 = .ok (.iconst (-1), 1) := by decide +kernel
theorem dX11_count_197 : decode cX11_count 197 = .ok (.ireturn, 1) := by decide +kernel
theorem dX11_differs_0 : decode cX11_differs 0 = .ok (.aload_n 0, 1) := by decide +kernel
theorem dX11_differs_1 : decode cX11_differs 1 = .ok (.iload_n 1, 1) := by decide +kernel
theorem dX11_differs_2 : decode cX11_differs 2 = .ok (.invokevirtual 273, 3) := by decide +kernel
theorem dX11_differs_5 : decode cX11_differs 5 = .ok (.istore_n 2, 1) := by decide +kernel
theorem dX11_differs_6 : decode cX11_differs 6 = .ok (.iload_n 2, 1) := by decide +kernel
theorem dX11_differs_7 : decode cX11_differs 7 = .ok (.ifCond .eq 5, 3) := by decide +kernel
theorem dX11_differs_10 : decode cX11_differs 10 = .ok (.iload_n 2, 1) := by decide +kernel
theorem dX11_differs_11 : decode cX11_differs 11 = .ok (.ireturn, 1) := by decide +kernel
theorem dX11_gain_0 : decode cX11_gain 0 = .ok (.aload_n 0, 1) := by decide +kernel
theorem dX11_gain_1 : decode cX11_gain 1 = .ok (.iload_n 1, 1) := by decide +kernel
theorem dX11_gain_2 : decode cX11_gain 2 = .ok (.invokevirtual 222, 3) := by decide +kernel
theorem dX11_gain_5 : decode cX11_gain 5 = .ok (.ifCond .eq 11, 3) := by decide +kernel
theorem dX11_gain_8 : decode cX11_gain 8 = .ok (.aload_n 0, 1) := by decide +kernel
theorem dX11_gain_9 : decode cX11_gain 9 = .ok (.iload_n 3, 1) := by decide +kernel
theorem dX11_gain_10 : decode cX11_gain 10 = .ok (.invokevirtual 319, 3) := by decide +kernel
theorem dX11_gain_13 : decode cX11_gain 13 = .ok (.ifCond .ne 7, 3) := by decide +kernel
theorem dX11_gain_16 : decode cX11_gain 16 = .ok (.sipush (-1000), 3) := by decide +kernel
theorem dX11_gain_19 : decode cX11_gain 19 = .ok (.ireturn, 1) := by decide +kernel
theorem dX11_gap_0 : decode cX11_gap 0 = .ok (.aload_n 0, 1) := by decide +kernel
theorem dX11_gap_1 : decode cX11_gap 1 = .ok (.getfield 94, 3) := by decide +kernel
theorem dX11_gap_4 : decode cX11_gap 4 = .ok (.invokevirtual 355, 3) := by decide +kernel
theorem dX11_gap_7 : decode cX11_gap 7 = .ok (.ireturn, 1) := by decide +kernel
theorem dX11_had_0 : decode cX11_had 0 = .ok (.aload_n 0, 1) := by decide +kernel
theorem dX11_had_1 : decode cX11_had 1 = .ok (.iload_n 1, 1) := by decide +kernel
theorem dX11_had_2 : decode cX11_had 2 = .ok (.iload 4, 2) := by decide +kernel
theorem dX11_had_4 : decode cX11_had 4 = .ok (.invokevirtual 231, 3) := by decide +kernel
theorem dX11_had_7 : decode cX11_had 7 = .ok (.ifCond .eq 24, 3) := by decide +kernel
theorem dX11_had_31 : decode cX11_had 31 = .ok (.iconst (-1), 1) := by decide +kernel
theorem dX11_had_32 : decode cX11_had 32 = .ok (.ireturn, 1) := by decide +kernel
theorem dX11_hand_0 : decode cX11_hand 0 = .ok (.aload_n 0, 1) := by decide +kernel
theorem dX11_hand_1 : decode cX11_hand 1 = .ok (.getfield 41, 3) := by decide +kernel
theorem dX11_hand_4 : decode cX11_hand 4 = .ok (.getfield 157, 3) := by decide +kernel
theorem dX11_hand_7 : decode cX11_hand 7 = .ok (.ifCond .eq 11, 3) := by decide +kernel
theorem dX11_hand_18 : decode cX11_hand 18 = .ok (.iconst (-1), 1) := by decide +kernel
theorem dX11_hand_19 : decode cX11_hand 19 = .ok (.ireturn, 1) := by decide +kernel
theorem dX11_hold_0 : decode cX11_hold 0 = .ok (.iload_n 1, 1) := by decide +kernel
theorem dX11_hold_1 : decode cX11_hold 1 = .ok (.ifCond .lt 18, 3) := by decide +kernel
theorem dX11_hold_4 : decode cX11_hold 4 = .ok (.iload_n 1, 1) := by decide +kernel
theorem dX11_hold_5 : decode cX11_hold 5 = .ok (.iconst 2, 1) := by decide +kernel
theorem dX11_hold_6 : decode cX11_hold 6 = .ok (.if_icmp .ge 13, 3) := by decide +kernel
theorem dX11_hold_9 : decode cX11_hold 9 = .ok (.aload_n 0, 1) := by decide +kernel
theorem dX11_hold_10 : decode cX11_hold 10 = .ok (.getfield 41, 3) := by decide +kernel
theorem dX11_hold_13 : decode cX11_hold 13 = .ok (.getfield 157, 3) := by decide +kernel
theorem dX11_hold_16 : decode cX11_hold 16 = .ok (.ifCond .ne 5, 3) := by decide +kernel
theorem dX11_hold_19 : decode cX11_hold 19 = .ok (.iconst 0, 1) := by decide +kernel
theorem dX11_hold_20 : decode cX11_hold 20 = .ok (.ireturn, 1) := by decide +kernel
theorem dX11_isCustom_0 : decode cX11_isCustom 0 = .ok (.iload_n 1, 1) := by decide +kernel
theorem dX11_isCustom_1 : decode cX11_isCustom 1 = .ok (.ifCond .lt 18, 3) := by decide +kernel
theorem dX11_isCustom_4 : decode cX11_isCustom 4 = .ok (.iload_n 1, 1) := by decide +kernel
theorem dX11_isCustom_5 : decode cX11_isCustom 5 = .ok (.aload_n 0, 1) := by decide +kernel
theorem dX11_isCustom_6 : decode cX11_isCustom 6 = .ok (.getfield 16, 3) := by decide +kernel
theorem dX11_isCustom_9 : decode cX11_isCustom 9 = .ok (.getfield 326, 3) := by decide +kernel
theorem dX11_isCustom_12 : decode cX11_isCustom 12 = .ok (.if_icmp .ge 7, 3) := by decide +kernel
theorem dX11_isCustom_19 : decode cX11_isCustom 19 = .ok (.iconst 0, 1) := by decide +kernel
theorem dX11_isCustom_20 : decode cX11_isCustom 20 = .ok (.ireturn, 1) := by decide +kernel
theorem dX11_isInHand_0 : decode cX11_isInHand 0 = .ok (.aload_n 0, 1) := by decide +kernel
theorem dX11_isInHand_1 : decode cX11_isInHand 1 = .ok (.getfield 41, 3) := by decide +kernel
theorem dX11_isInHand_4 : decode cX11_isInHand 4 = .ok (.getfield 177, 3) := by decide +kernel
theorem dX11_isInHand_7 : decode cX11_isInHand 7 = .ok (.ifCond .lt 37, 3) := by decide +kernel
theorem dX11_isInHand_44 : decode cX11_isInHand 44 = .ok (.iconst 0, 1) := by decide +kernel
theorem dX11_isInHand_45 : decode cX11_isInHand 45 = .ok (.ireturn, 1) := by decide +kernel
theorem dX11_kept_0 : decode cX11_kept 0 = .ok (.iload_n 1, 1) := by decide +kernel
theorem dX11_kept_1 : decode cX11_kept 1 = .ok (.ifCond .lt 14, 3) := by decide +kernel
theorem dX11_kept_4 : decode cX11_kept 4 = .ok (.iload_n 1, 1) := by decide +kernel
theorem dX11_kept_5 : decode cX11_kept 5 = .ok (.aload_n 0, 1) := by decide +kernel
theorem dX11_kept_6 : decode cX11_kept 6 = .ok (.getfield 87, 3) := by decide +kernel
theorem dX11_kept_9 : decode cX11_kept 9 = .ok (.getfield 333, 3) := by decide +kernel
theorem dX11_kept_12 : decode cX11_kept 12 = .ok (.if_icmp .le 5, 3) := by decide +kernel
theorem dX11_kept_15 : decode cX11_kept 15 = .ok (.iconst (-1), 1) := by decide +kernel
theorem dX11_kept_16 : decode cX11_kept 16 = .ok (.ireturn, 1) := by decide +kernel
theorem dX11_kept_17 : decode cX11_kept 17 = .ok (.iconst 0, 1) := by decide +kernel
theorem dX11_kept_18 : decode cX11_kept 18 = .ok (.istore_n 2, 1) := by decide +kernel
theorem dX11_kept_19 : decode cX11_kept 19 = .ok (.iconst 0, 1) := by decide +kernel
theorem dX11_kept_20 : decode cX11_kept 20 = .ok (.istore_n 3, 1) := by decide +kernel
theorem dX11_kept_21 : decode cX11_kept 21 = .ok (.iload_n 3, 1) := by decide +kernel
theorem dX11_kept_22 : decode cX11_kept 22 = .ok (.aload_n 0, 1) := by decide +kernel
theorem dX11_kept_23 : decode cX11_kept 23 = .ok (.getfield 16, 3) := by decide +kernel
theorem dX11_kept_26 : decode cX11_kept 26 = .ok (.getfield 326, 3) := by decide +kernel
theorem dX11_kept_29 : decode cX11_kept 29 = .ok (.if_icmp .ge 27, 3) := by decide +kernel
theorem dX11_kept_56 : decode cX11_kept 56 = .ok (.iload_n 2, 1) := by decide +kernel
theorem dX11_kept_57 : decode cX11_kept 57 = .ok (.ireturn, 1) := by decide +kernel
theorem dX11_knows_0 : decode cX11_knows 0 = .ok (.aload_n 0, 1) := by decide +kernel
theorem dX11_knows_1 : decode cX11_knows 1 = .ok (.iload_n 1, 1) := by decide +kernel
theorem dX11_knows_2 : decode cX11_knows 2 = .ok (.iload 4, 2) := by decide +kernel
theorem dX11_knows_4 : decode cX11_knows 4 = .ok (.invokevirtual 231, 3) := by decide +kernel
theorem dX11_knows_7 : decode cX11_knows 7 = .ok (.ifCond .eq 24, 3) := by decide +kernel
theorem dX11_knows_31 : decode cX11_knows 31 = .ok (.iconst (-1), 1) := by decide +kernel
theorem dX11_knows_32 : decode cX11_knows 32 = .ok (.ireturn, 1) := by decide +kernel
theorem dX11_lead_0 : decode cX11_lead 0 = .ok (.aload_n 0, 1) := by decide +kernel
theorem dX11_lead_1 : decode cX11_lead 1 = .ok (.getfield 41, 3) := by decide +kernel
theorem dX11_lead_4 : decode cX11_lead 4 = .ok (.getfield 157, 3) := by decide +kernel
theorem dX11_lead_7 : decode cX11_lead 7 = .ok (.ifCond .eq 21, 3) := by decide +kernel
theorem dX11_lead_28 : decode cX11_lead 28 = .ok (.iconst 0, 1) := by decide +kernel
theorem dX11_lead_29 : decode cX11_lead 29 = .ok (.ireturn, 1) := by decide +kernel
theorem dX11_lies_0 : decode cX11_lies 0 = .ok (.aload_n 0, 1) := by decide +kernel
theorem dX11_lies_1 : decode cX11_lies 1 = .ok (.getfield 41, 3) := by decide +kernel
theorem dX11_lies_4 : decode cX11_lies 4 = .ok (.getfield 177, 3) := by decide +kernel
theorem dX11_lies_7 : decode cX11_lies 7 = .ok (.ifCond .lt 11, 3) := by decide +kernel
theorem dX11_lies_18 : decode cX11_lies 18 = .ok (.iconst (-1), 1) := by decide +kernel
theorem dX11_lies_19 : decode cX11_lies 19 = .ok (.goto 11, 3) := by decide +kernel
theorem dX11_lies_30 : decode cX11_lies 30 = .ok (.ireturn, 1) := by decide +kernel
theorem dX11_line_0 : decode cX11_line 0 = .ok (.iload_n 1, 1) := by decide +kernel
theorem dX11_line_1 : decode cX11_line 1 = .ok (.ifCond .lt 32, 3) := by decide +kernel
theorem dX11_line_4 : decode cX11_line 4 = .ok (.aload_n 0, 1) := by decide +kernel
theorem dX11_line_5 : decode cX11_line 5 = .ok (.getfield 41, 3) := by decide +kernel
theorem dX11_line_8 : decode cX11_line 8 = .ok (.getfield 157, 3) := by decide +kernel
theorem dX11_line_11 : decode cX11_line 11 = .ok (.ifCond .eq 22, 3) := by decide +kernel
theorem dX11_line_33 : decode cX11_line 33 = .ok (.iconst (-1), 1) := by decide +kernel
theorem dX11_line_34 : decode cX11_line 34 = .ok (.ireturn, 1) := by decide +kernel
theorem dX11_loss_0 : decode cX11_loss 0 = .ok (.aload_n 0, 1) := by decide +kernel
theorem dX11_loss_1 : decode cX11_loss 1 = .ok (.iload_n 1, 1) := by decide +kernel
theorem dX11_loss_2 : decode cX11_loss 2 = .ok (.invokevirtual 273, 3) := by decide +kernel
theorem dX11_loss_5 : decode cX11_loss 5 = .ok (.istore_n 2, 1) := by decide +kernel
theorem dX11_loss_6 : decode cX11_loss 6 = .ok (.iload_n 2, 1) := by decide +kernel
theorem dX11_loss_7 : decode cX11_loss 7 = .ok (.ifCond .eq 5, 3) := by decide +kernel
theorem dX11_loss_10 : decode cX11_loss 10 = .ok (.iload_n 2, 1) := by decide +kernel
theorem dX11_loss_11 : decode cX11_loss 11 = .ok (.ireturn, 1) := by decide +kernel
theorem dX11_may_0 : decode cX11_may 0 = .ok (.aload_n 0, 1) := by decide +kernel
theorem dX11_may_1 : decode cX11_may 1 = .ok (.getfield 41, 3) := by decide +kernel
theorem dX11_may_4 : decode cX11_may 4 = .ok (.invokevirtual 180, 3) := by decide +kernel
theorem dX11_may_7 : decode cX11_may 7 = .ok (.ireturn, 1) := by decide +kernel
theorem dX11_mean_0 : decode cX11_mean 0 = .ok (.aload_n 0, 1) := by decide +kernel
theorem dX11_mean_1 : decode cX11_mean 1 = .ok (.iload_n 2, 1) := by decide +kernel
theorem dX11_mean_2 : decode cX11_mean 2 = .ok (.invokevirtual 273, 3) := by decide +kernel
theorem dX11_mean_5 : decode cX11_mean 5 = .ok (.istore_n 3, 1) := by decide +kernel
theorem dX11_mean_6 : decode cX11_mean 6 = .ok (.iload_n 3, 1) := by decide +kernel
theorem dX11_mean_7 : decode cX11_mean 7 = .ok (.ifCond .eq 6, 3) := by decide +kernel
theorem dX11_mean_10 : decode cX11_mean 10 = .ok (.iload_n 3, 1) := by decide +kernel
theorem dX11_mean_11 : decode cX11_mean 11 = .ok (.i2l, 1) := by decide +kernel
theorem dX11_mean_12 : decode cX11_mean 12 = .ok (.lreturn, 1) := by decide +kernel
theorem dX11_open_0 : decode cX11_open 0 = .ok (.aload_n 0, 1) := by decide +kernel
theorem dX11_open_1 : decode cX11_open 1 = .ok (.getfield 41, 3) := by decide +kernel
theorem dX11_open_4 : decode cX11_open 4 = .ok (.getfield 157, 3) := by decide +kernel
theorem dX11_open_7 : decode cX11_open 7 = .ok (.ifCond .eq 17, 3) := by decide +kernel
theorem dX11_open_24 : decode cX11_open 24 = .ok (.bipush (-2), 2) := by decide +kernel
theorem dX11_open_26 : decode cX11_open 26 = .ok (.ireturn, 1) := by decide +kernel
theorem dX11_openings_0 : decode cX11_openings 0 = .ok (.aload_n 0, 1) := by decide +kernel
theorem dX11_openings_1 : decode cX11_openings 1 = .ok (.iload_n 1, 1) := by decide +kernel
theorem dX11_openings_2 : decode cX11_openings 2 = .ok (.invokevirtual 340, 3) := by decide +kernel
theorem dX11_openings_5 : decode cX11_openings 5 = .ok (.ifCond .eq 12, 3) := by decide +kernel
theorem dX11_openings_17 : decode cX11_openings 17 = .ok (.iconst (-1), 1) := by decide +kernel
theorem dX11_openings_18 : decode cX11_openings 18 = .ok (.ireturn, 1) := by decide +kernel
theorem dX11_place_0 : decode cX11_place 0 = .ok (.aload_n 0, 1) := by decide +kernel
theorem dX11_place_1 : decode cX11_place 1 = .ok (.getfield 32, 3) := by decide +kernel
theorem dX11_place_4 : decode cX11_place 4 = .ok (.getfield 130, 3) := by decide +kernel
theorem dX11_place_7 : decode cX11_place 7 = .ok (.ireturn, 1) := by decide +kernel
theorem dX11_play_0 : decode cX11_play 0 = .ok (.aload_n 0, 1) := by decide +kernel
theorem dX11_play_1 : decode cX11_play 1 = .ok (.iload_n 1, 1) := by decide +kernel
theorem dX11_play_2 : decode cX11_play 2 = .ok (.invokevirtual 183, 3) := by decide +kernel
theorem dX11_play_5 : decode cX11_play 5 = .ok (.ifCond .ne 5, 3) := by decide +kernel
theorem dX11_play_8 : decode cX11_play 8 = .ok (.iconst (-1), 1) := by decide +kernel
theorem dX11_play_9 : decode cX11_play 9 = .ok (.ireturn, 1) := by decide +kernel
theorem dX11_quarrel_0 : decode cX11_quarrel 0 = .ok (.aload_n 0, 1) := by decide +kernel
theorem dX11_quarrel_1 : decode cX11_quarrel 1 = .ok (.iload_n 1, 1) := by decide +kernel
theorem dX11_quarrel_2 : decode cX11_quarrel 2 = .ok (.invokevirtual 340, 3) := by decide +kernel
theorem dX11_quarrel_5 : decode cX11_quarrel 5 = .ok (.ifCond .eq 16, 3) := by decide +kernel
theorem dX11_quarrel_21 : decode cX11_quarrel 21 = .ok (.iconst (-1), 1) := by decide +kernel
theorem dX11_quarrel_22 : decode cX11_quarrel 22 = .ok (.ireturn, 1) := by decide +kernel
theorem dX11_refusal_0 : decode cX11_refusal 0 = .ok (.aload_n 0, 1) := by decide +kernel
theorem dX11_refusal_1 : decode cX11_refusal 1 = .ok (.iload_n 1, 1) := by decide +kernel
theorem dX11_refusal_2 : decode cX11_refusal 2 = .ok (.invokevirtual 222, 3) := by decide +kernel
theorem dX11_refusal_5 : decode cX11_refusal 5 = .ok (.ifCond .eq 13, 3) := by decide +kernel
theorem dX11_refusal_8 : decode cX11_refusal 8 = .ok (.aload_n 0, 1) := by decide +kernel
theorem dX11_refusal_9 : decode cX11_refusal 9 = .ok (.getfield 41, 3) := by decide +kernel
theorem dX11_refusal_12 : decode cX11_refusal 12 = .ok (.getfield 177, 3) := by decide +kernel
theorem dX11_refusal_15 : decode cX11_refusal 15 = .ok (.ifCond .ge 5, 3) := by decide +kernel
theorem dX11_refusal_18 : decode cX11_refusal 18 = .ok (.iconst (-1), 1) := by decide +kernel
theorem dX11_refusal_19 : decode cX11_refusal 19 = .ok (.ireturn, 1) := by decide +kernel
theorem dX11_restore_0 : decode cX11_restore 0 = .ok (.iload_n 1, 1) := by decide +kernel
theorem dX11_restore_1 : decode cX11_restore 1 = .ok (.ifCond .lt 20, 3) := by decide +kernel
theorem dX11_restore_4 : decode cX11_restore 4 = .ok (.iload_n 1, 1) := by decide +kernel
theorem dX11_restore_5 : decode cX11_restore 5 = .ok (.iconst 2, 1) := by decide +kernel
theorem dX11_restore_6 : decode cX11_restore 6 = .ok (.if_icmp .ge 15, 3) := by decide +kernel
theorem dX11_restore_9 : decode cX11_restore 9 = .ok (.aload_n 0, 1) := by decide +kernel
theorem dX11_restore_10 : decode cX11_restore 10 = .ok (.getfield 48, 3) := by decide +kernel
theorem dX11_restore_13 : decode cX11_restore 13 = .ok (.iload_n 1, 1) := by decide +kernel
theorem dX11_restore_14 : decode cX11_restore 14 = .ok (.aaload, 1) := by decide +kernel
theorem dX11_restore_15 : decode cX11_restore 15 = .ok (.getfield 157, 3) := by decide +kernel
theorem dX11_restore_18 : decode cX11_restore 18 = .ok (.ifCond .ne 5, 3) := by decide +kernel
theorem dX11_restore_21 : decode cX11_restore 21 = .ok (.iconst 0, 1) := by decide +kernel
theorem dX11_restore_22 : decode cX11_restore 22 = .ok (.ireturn, 1) := by decide +kernel
theorem dX11_revoke_0 : decode cX11_revoke 0 = .ok (.aload_n 0, 1) := by decide +kernel
theorem dX11_revoke_1 : decode cX11_revoke 1 = .ok (.iload_n 1, 1) := by decide +kernel
theorem dX11_revoke_2 : decode cX11_revoke 2 = .ok (.invokevirtual 183, 3) := by decide +kernel
theorem dX11_revoke_5 : decode cX11_revoke 5 = .ok (.ifCond .ne 5, 3) := by decide +kernel
theorem dX11_revoke_8 : decode cX11_revoke 8 = .ok (.iconst (-1), 1) := by decide +kernel
theorem dX11_revoke_9 : decode cX11_revoke 9 = .ok (.ireturn, 1) := by decide +kernel
theorem dX11_revokes_0 : decode cX11_revokes 0 = .ok (.iload_n 1, 1) := by decide +kernel
theorem dX11_revokes_1 : decode cX11_revokes 1 = .ok (.ifCond .lt 8, 3) := by decide +kernel
theorem dX11_revokes_4 : decode cX11_revokes 4 = .ok (.iload_n 1, 1) := by decide +kernel
theorem dX11_revokes_5 : decode cX11_revokes 5 = .ok (.iconst 2, 1) := by decide +kernel
theorem dX11_revokes_6 : decode cX11_revokes 6 = .ok (.if_icmp .le 5, 3) := by decide +kernel
theorem dX11_revokes_9 : decode cX11_revokes 9 = .ok (.iconst (-1), 1) := by decide +kernel
theorem dX11_revokes_10 : decode cX11_revokes 10 = .ok (.ireturn, 1) := by decide +kernel
theorem dX11_revokes_11 : decode cX11_revokes 11 = .ok (.iconst 0, 1) := by decide +kernel
theorem dX11_revokes_12 : decode cX11_revokes 12 = .ok (.istore_n 2, 1) := by decide +kernel
theorem dX11_revokes_13 : decode cX11_revokes 13 = .ok (.iconst 0, 1) := by decide +kernel
theorem dX11_revokes_14 : decode cX11_revokes 14 = .ok (.istore_n 3, 1) := by decide +kernel
theorem dX11_revokes_15 : decode cX11_revokes 15 = .ok (.bipush 16, 2) := by decide +kernel
theorem dX11_revokes_17 : decode cX11_revokes 17 = .ok (.istore 4, 2) := by decide +kernel
theorem dX11_revokes_19 : decode cX11_revokes 19 = .ok (.iconst 0, 1) := by decide +kernel
theorem dX11_revokes_20 : decode cX11_revokes 20 = .ok (.istore 5, 2) := by decide +kernel
theorem dX11_revokes_22 : decode cX11_revokes 22 = .ok (.iload 5, 2) := by decide +kernel
theorem dX11_revokes_24 : decode cX11_revokes 24 = .ok (.aload_n 0, 1) := by decide +kernel
theorem dX11_revokes_25 : decode cX11_revokes 25 = .ok (.getfield 41, 3) := by decide +kernel
theorem dX11_revokes_28 : decode cX11_revokes 28 = .ok (.getfield 161, 3) := by decide +kernel
theorem dX11_revokes_31 : decode cX11_revokes 31 = .ok (.if_icmp .ge 52, 3) := by decide +kernel
theorem dX11_revokes_83 : decode cX11_revokes 83 = .ok (.iload_n 1, 1) := by decide +kernel
theorem dX11_revokes_84 : decode cX11_revokes 84 = .ok (.ifCond .ne 5, 3) := by decide +kernel
theorem dX11_revokes_87 : decode cX11_revokes 87 = .ok (.iload_n 2, 1) := by decide +kernel
theorem dX11_revokes_88 : decode cX11_revokes 88 = .ok (.ireturn, 1) := by decide +kernel
theorem dX11_revokes_89 : decode cX11_revokes 89 = .ok (.iload_n 1, 1) := by decide +kernel
theorem dX11_revokes_90 : decode cX11_revokes 90 = .ok (.iconst 1, 1) := by decide +kernel
theorem dX11_revokes_91 : decode cX11_revokes 91 = .ok (.if_icmp .ne 5, 3) := by decide +kernel
theorem dX11_revokes_94 : decode cX11_revokes 94 = .ok (.iload_n 3, 1) := by decide +kernel
theorem dX11_revokes_95 : decode cX11_revokes 95 = .ok (.ireturn, 1) := by decide +kernel
theorem dX11_revokes_96 : decode cX11_revokes 96 = .ok (.iload_n 3, 1) := by decide +kernel
theorem dX11_revokes_97 : decode cX11_revokes 97 = .ok (.ifCond .ne 8, 3) := by decide +kernel
theorem dX11_revokes_100 : decode cX11_revokes 100 = .ok (.bipush (-2), 2) := by decide +kernel
theorem dX11_revokes_102 : decode cX11_revokes 102 = .ok (.goto 5, 3) := by decide +kernel
theorem dX11_revokes_107 : decode cX11_revokes 107 = .ok (.ireturn, 1) := by decide +kernel
theorem dX11_safe_0 : decode cX11_safe 0 = .ok (.iload_n 2, 1) := by decide +kernel
theorem dX11_safe_1 : decode cX11_safe 1 = .ok (.ifCond .lt 8, 3) := by decide +kernel
theorem dX11_safe_4 : decode cX11_safe 4 = .ok (.iload_n 2, 1) := by decide +kernel
theorem dX11_safe_5 : decode cX11_safe 5 = .ok (.iconst 1, 1) := by decide +kernel
theorem dX11_safe_6 : decode cX11_safe 6 = .ok (.if_icmp .le 5, 3) := by decide +kernel
theorem dX11_safe_9 : decode cX11_safe 9 = .ok (.iconst (-1), 1) := by decide +kernel
theorem dX11_safe_10 : decode cX11_safe 10 = .ok (.ireturn, 1) := by decide +kernel
theorem dX11_safe_11 : decode cX11_safe 11 = .ok (.aload_n 0, 1) := by decide +kernel
theorem dX11_safe_12 : decode cX11_safe 12 = .ok (.iload_n 1, 1) := by decide +kernel
theorem dX11_safe_13 : decode cX11_safe 13 = .ok (.invokevirtual 273, 3) := by decide +kernel
theorem dX11_safe_16 : decode cX11_safe 16 = .ok (.istore_n 3, 1) := by decide +kernel
theorem dX11_safe_17 : decode cX11_safe 17 = .ok (.iload_n 3, 1) := by decide +kernel
theorem dX11_safe_18 : decode cX11_safe 18 = .ok (.ifCond .eq 5, 3) := by decide +kernel
theorem dX11_safe_21 : decode cX11_safe 21 = .ok (.iload_n 3, 1) := by decide +kernel
theorem dX11_safe_22 : decode cX11_safe 22 = .ok (.ireturn, 1) := by decide +kernel
theorem dX11_says_0 : decode cX11_says 0 = .ok (.iload_n 1, 1) := by decide +kernel
theorem dX11_says_1 : decode cX11_says 1 = .ok (.ifCond .lt 31, 3) := by decide +kernel
theorem dX11_says_4 : decode cX11_says 4 = .ok (.iload_n 1, 1) := by decide +kernel
theorem dX11_says_5 : decode cX11_says 5 = .ok (.aload_n 0, 1) := by decide +kernel
theorem dX11_says_6 : decode cX11_says 6 = .ok (.getfield 41, 3) := by decide +kernel
theorem dX11_says_9 : decode cX11_says 9 = .ok (.getfield 161, 3) := by decide +kernel
theorem dX11_says_12 : decode cX11_says 12 = .ok (.if_icmp .ge 20, 3) := by decide +kernel
theorem dX11_says_32 : decode cX11_says 32 = .ok (.iconst (-1), 1) := by decide +kernel
theorem dX11_says_33 : decode cX11_says 33 = .ok (.ireturn, 1) := by decide +kernel
theorem dX11_slotsInUse_0 : decode cX11_slotsInUse 0 = .ok (.iconst 0, 1) := by decide +kernel
theorem dX11_slotsInUse_1 : decode cX11_slotsInUse 1 = .ok (.istore_n 1, 1) := by decide +kernel
theorem dX11_slotsInUse_2 : decode cX11_slotsInUse 2 = .ok (.iconst 0, 1) := by decide +kernel
theorem dX11_slotsInUse_3 : decode cX11_slotsInUse 3 = .ok (.istore_n 2, 1) := by decide +kernel
theorem dX11_slotsInUse_4 : decode cX11_slotsInUse 4 = .ok (.iload_n 2, 1) := by decide +kernel
theorem dX11_slotsInUse_5 : decode cX11_slotsInUse 5 = .ok (.iconst 2, 1) := by decide +kernel
theorem dX11_slotsInUse_6 : decode cX11_slotsInUse 6 = .ok (.if_icmp .ge 29, 3) := by decide +kernel
theorem dX11_slotsInUse_9 : decode cX11_slotsInUse 9 = .ok (.iload_n 1, 1) := by decide +kernel
theorem dX11_slotsInUse_10 : decode cX11_slotsInUse 10 = .ok (.aload_n 0, 1) := by decide +kernel
theorem dX11_slotsInUse_11 : decode cX11_slotsInUse 11 = .ok (.getfield 48, 3) := by decide +kernel
theorem dX11_slotsInUse_14 : decode cX11_slotsInUse 14 = .ok (.iload_n 2, 1) := by decide +kernel
theorem dX11_slotsInUse_15 : decode cX11_slotsInUse 15 = .ok (.aaload, 1) := by decide +kernel
theorem dX11_slotsInUse_16 : decode cX11_slotsInUse 16 = .ok (.getfield 157, 3) := by decide +kernel
theorem dX11_slotsInUse_19 : decode cX11_slotsInUse 19 = .ok (.ifCond .eq 7, 3) := by decide +kernel
theorem dX11_slotsInUse_26 : decode cX11_slotsInUse 26 = .ok (.iconst 0, 1) := by decide +kernel
theorem dX11_slotsInUse_27 : decode cX11_slotsInUse 27 = .ok (.iadd, 1) := by decide +kernel
theorem dX11_slotsInUse_28 : decode cX11_slotsInUse 28 = .ok (.istore_n 1, 1) := by decide +kernel
theorem dX11_slotsInUse_29 : decode cX11_slotsInUse 29 = .ok (.iinc 2 1, 3) := by decide +kernel
theorem dX11_slotsInUse_32 : decode cX11_slotsInUse 32 = .ok (.goto (-28), 3) := by decide +kernel
theorem dX11_slotsInUse_35 : decode cX11_slotsInUse 35 = .ok (.iload_n 1, 1) := by decide +kernel
theorem dX11_slotsInUse_36 : decode cX11_slotsInUse 36 = .ok (.ireturn, 1) := by decide +kernel
theorem dX11_spread_0 : decode cX11_spread 0 = .ok (.aload_n 0, 1) := by decide +kernel
theorem dX11_spread_1 : decode cX11_spread 1 = .ok (.iload_n 2, 1) := by decide +kernel
theorem dX11_spread_2 : decode cX11_spread 2 = .ok (.invokevirtual 273, 3) := by decide +kernel
theorem dX11_spread_5 : decode cX11_spread 5 = .ok (.istore 4, 2) := by decide +kernel
theorem dX11_spread_7 : decode cX11_spread 7 = .ok (.iload 4, 2) := by decide +kernel
theorem dX11_spread_9 : decode cX11_spread 9 = .ok (.ifCond .eq 6, 3) := by decide +kernel
theorem dX11_spread_12 : decode cX11_spread 12 = .ok (.iload 4, 2) := by decide +kernel
theorem dX11_spread_14 : decode cX11_spread 14 = .ok (.ireturn, 1) := by decide +kernel
theorem dX11_sure_0 : decode cX11_sure 0 = .ok (.aload_n 0, 1) := by decide +kernel
theorem dX11_sure_1 : decode cX11_sure 1 = .ok (.iload_n 1, 1) := by decide +kernel
theorem dX11_sure_2 : decode cX11_sure 2 = .ok (.iload_n 2, 1) := by decide +kernel
theorem dX11_sure_3 : decode cX11_sure 3 = .ok (.invokevirtual 231, 3) := by decide +kernel
theorem dX11_sure_6 : decode cX11_sure 6 = .ok (.ifCond .ne 5, 3) := by decide +kernel
theorem dX11_sure_9 : decode cX11_sure 9 = .ok (.iconst (-1), 1) := by decide +kernel
theorem dX11_sure_10 : decode cX11_sure 10 = .ok (.ireturn, 1) := by decide +kernel
theorem dX11_told_0 : decode cX11_told 0 = .ok (.aload_n 0, 1) := by decide +kernel
theorem dX11_told_1 : decode cX11_told 1 = .ok (.iload_n 1, 1) := by decide +kernel
theorem dX11_told_2 : decode cX11_told 2 = .ok (.invokevirtual 340, 3) := by decide +kernel
theorem dX11_told_5 : decode cX11_told 5 = .ok (.ifCond .eq 27, 3) := by decide +kernel
theorem dX11_told_32 : decode cX11_told 32 = .ok (.iconst (-1), 1) := by decide +kernel
theorem dX11_told_33 : decode cX11_told 33 = .ok (.ireturn, 1) := by decide +kernel
theorem dX11_tricks_0 : decode cX11_tricks 0 = .ok (.iload_n 1, 1) := by decide +kernel
theorem dX11_tricks_1 : decode cX11_tricks 1 = .ok (.ifCond .lt 8, 3) := by decide +kernel
theorem dX11_tricks_4 : decode cX11_tricks 4 = .ok (.iload_n 1, 1) := by decide +kernel
theorem dX11_tricks_5 : decode cX11_tricks 5 = .ok (.iconst 1, 1) := by decide +kernel
theorem dX11_tricks_6 : decode cX11_tricks 6 = .ok (.if_icmp .le 7, 3) := by decide +kernel
theorem dX11_tricks_9 : decode cX11_tricks 9 = .ok (.iconst (-1), 1) := by decide +kernel
theorem dX11_tricks_10 : decode cX11_tricks 10 = .ok (.goto 11, 3) := by decide +kernel
theorem dX11_tricks_13 : decode cX11_tricks 13 = .ok (.aload_n 0, 1) := by decide +kernel
theorem dX11_tricks_14 : decode cX11_tricks 14 = .ok (.getfield 41, 3) := by decide +kernel
theorem dX11_tricks_17 : decode cX11_tricks 17 = .ok (.iload_n 1, 1) := by decide +kernel
theorem dX11_tricks_18 : decode cX11_tricks 18 = .ok (.invokevirtual 210, 3) := by decide +kernel
theorem dX11_tricks_21 : decode cX11_tricks 21 = .ok (.ireturn, 1) := by decide +kernel
theorem dX11_turn_0 : decode cX11_turn 0 = .ok (.aload_n 0, 1) := by decide +kernel
theorem dX11_turn_1 : decode cX11_turn 1 = .ok (.getfield 41, 3) := by decide +kernel
theorem dX11_turn_4 : decode cX11_turn 4 = .ok (.getfield 177, 3) := by decide +kernel
theorem dX11_turn_7 : decode cX11_turn 7 = .ok (.ireturn, 1) := by decide +kernel
theorem dX11_undo_0 : decode cX11_undo 0 = .ok (.aload_n 0, 1) := by decide +kernel
theorem dX11_undo_1 : decode cX11_undo 1 = .ok (.getfield 41, 3) := by decide +kernel
theorem dX11_undo_4 : decode cX11_undo 4 = .ok (.getfield 161, 3) := by decide +kernel
theorem dX11_undo_7 : decode cX11_undo 7 = .ok (.ifCond .ne 5, 3) := by decide +kernel
theorem dX11_undo_10 : decode cX11_undo 10 = .ok (.iconst (-1), 1) := by decide +kernel
theorem dX11_undo_11 : decode cX11_undo 11 = .ok (.ireturn, 1) := by decide +kernel
theorem dX11_winner_0 : decode cX11_winner 0 = .ok (.iload_n 1, 1) := by decide +kernel
theorem dX11_winner_1 : decode cX11_winner 1 = .ok (.ifCond .lt 16, 3) := by decide +kernel
theorem dX11_winner_4 : decode cX11_winner 4 = .ok (.iload_n 1, 1) := by decide +kernel
theorem dX11_winner_5 : decode cX11_winner 5 = .ok (.aload_n 0, 1) := by decide +kernel
theorem dX11_winner_6 : decode cX11_winner 6 = .ok (.getfield 41, 3) := by decide +kernel
theorem dX11_winner_9 : decode cX11_winner 9 = .ok (.getfield 161, 3) := by decide +kernel
theorem dX11_winner_12 : decode cX11_winner 12 = .ok (.iconst 4, 1) := by decide +kernel
theorem dX11_winner_13 : decode cX11_winner 13 = .ok (.idiv, 1) := by decide +kernel
theorem dX11_winner_14 : decode cX11_winner 14 = .ok (.if_icmp .lt 7, 3) := by decide +kernel
theorem dX11_winner_17 : decode cX11_winner 17 = .ok (.iconst (-1), 1) := by decide +kernel
theorem dX11_winner_18 : decode cX11_winner 18 = .ok (.goto 12, 3) := by decide +kernel
theorem dX11_winner_30 : decode cX11_winner 30 = .ok (.ireturn, 1) := by decide +kernel
theorem dX11_worth_0 : decode cX11_worth 0 = .ok (.aload_n 0, 1) := by decide +kernel
theorem dX11_worth_1 : decode cX11_worth 1 = .ok (.iload_n 1, 1) := by decide +kernel
theorem dX11_worth_2 : decode cX11_worth 2 = .ok (.invokevirtual 273, 3) := by decide +kernel
theorem dX11_worth_5 : decode cX11_worth 5 = .ok (.ifCond .eq 7, 3) := by decide +kernel
theorem dX11_worth_8 : decode cX11_worth 8 = .ok (.ldc2_w 311, 3) := by decide +kernel
theorem dX11_worth_11 : decode cX11_worth 11 = .ok (.lreturn, 1) := by decide +kernel
theorem dX12_after_0 : decode cX12_after 0 = .ok (.aload_n 0, 1) := by decide +kernel
theorem dX12_after_1 : decode cX12_after 1 = .ok (.iload_n 1, 1) := by decide +kernel
theorem dX12_after_2 : decode cX12_after 2 = .ok (.iload_n 3, 1) := by decide +kernel
theorem dX12_after_3 : decode cX12_after 3 = .ok (.invokevirtual 502, 3) := by decide +kernel
theorem dX12_after_6 : decode cX12_after 6 = .ok (.ifCond .eq 25, 3) := by decide +kernel
theorem dX12_after_31 : decode cX12_after 31 = .ok (.iconst (-1), 1) := by decide +kernel
theorem dX12_after_32 : decode cX12_after 32 = .ok (.ireturn, 1) := by decide +kernel
theorem dX12_areCustoms_0 : decode cX12_areCustoms 0 = .ok (.iload_n 1, 1) := by decide +kernel
theorem dX12_areCustoms_1 : decode cX12_areCustoms 1 = .ok (.iconst 0, 1) := by decide +kernel
theorem dX12_areCustoms_2 : decode cX12_areCustoms 2 = .ok (.iconst 1, 1) := by decide +kernel
theorem dX12_areCustoms_3 : decode cX12_areCustoms 3 = .ok (.aload_n 0, 1) := by decide +kernel
theorem dX12_areCustoms_4 : decode cX12_areCustoms 4 = .ok (.getfield 52, 3) := by decide +kernel
theorem dX12_areCustoms_7 : decode cX12_areCustoms 7 = .ok (.aload_n 0, 1) := by decide +kernel
theorem dX12_areCustoms_8 : decode cX12_areCustoms 8 = .ok (.getfield 274, 3) := by decide +kernel
theorem dX12_areCustoms_11 : decode cX12_areCustoms 11 = .ok (.iaload, 1) := by decide +kernel
theorem dX12_areCustoms_12 : decode cX12_areCustoms 12 = .ok (.ishl, 1) := by decide +kernel
theorem dX12_areCustoms_13 : decode cX12_areCustoms 13 = .ok (.iconst 1, 1) := by decide +kernel
theorem dX12_areCustoms_14 : decode cX12_areCustoms 14 = .ok (.isub, 1) := by decide +kernel
theorem dX12_areCustoms_15 : decode cX12_areCustoms 15 = .ok (.invokestatic 310, 3) := by decide +kernel
theorem dX12_areCustoms_18 : decode cX12_areCustoms 18 = .ok (.ireturn, 1) := by decide +kernel
theorem dX12_bestSet_0 : decode cX12_bestSet 0 = .ok (.aload_n 0, 1) := by decide +kernel
theorem dX12_bestSet_1 : decode cX12_bestSet 1 = .ok (.iload_n 2, 1) := by decide +kernel
theorem dX12_bestSet_2 : decode cX12_bestSet 2 = .ok (.invokevirtual 614, 3) := by decide +kernel
theorem dX12_bestSet_5 : decode cX12_bestSet 5 = .ok (.ifCond .eq 12, 3) := by decide +kernel
theorem dX12_bestSet_17 : decode cX12_bestSet 17 = .ok (.sipush (-1000), 3) := by decide +kernel
theorem dX12_bestSet_20 : decode cX12_bestSet 20 = .ok (.ireturn, 1) := by decide +kernel
theorem dX12_book_0 : decode cX12_book 0 = .ok (.aload_n 0, 1) := by decide +kernel
theorem dX12_book_1 : decode cX12_book 1 = .ok (.getfield 292, 3) := by decide +kernel
theorem dX12_book_4 : decode cX12_book 4 = .ok (.ifCond .eq 23, 3) := by decide +kernel
theorem dX12_book_27 : decode cX12_book 27 = .ok (.iconst (-1), 1) := by decide +kernel
theorem dX12_book_28 : decode cX12_book 28 = .ok (.ireturn, 1) := by decide +kernel
theorem dX12_canAsk_0 : decode cX12_canAsk 0 = .ok (.aload_n 0, 1) := by decide +kernel
theorem dX12_canAsk_1 : decode cX12_canAsk 1 = .ok (.getfield 292, 3) := by decide +kernel
theorem dX12_canAsk_4 : decode cX12_canAsk 4 = .ok (.ifCond .eq 22, 3) := by decide +kernel
theorem dX12_canAsk_26 : decode cX12_canAsk 26 = .ok (.iconst 0, 1) := by decide +kernel
theorem dX12_canAsk_27 : decode cX12_canAsk 27 = .ok (.ireturn, 1) := by decide +kernel
theorem dX12_canBe_0 : decode cX12_canBe 0 = .ok (.aload_n 0, 1) := by decide +kernel
theorem dX12_canBe_1 : decode cX12_canBe 1 = .ok (.iload_n 1, 1) := by decide +kernel
theorem dX12_canBe_2 : decode cX12_canBe 2 = .ok (.iload_n 2, 1) := by decide +kernel
theorem dX12_canBe_3 : decode cX12_canBe 3 = .ok (.invokevirtual 502, 3) := by decide +kernel
theorem dX12_canBe_6 : decode cX12_canBe 6 = .ok (.ifCond .eq 16, 3) := by decide +kernel
theorem dX12_canBe_22 : decode cX12_canBe 22 = .ok (.iconst (-1), 1) := by decide +kernel
theorem dX12_canBe_23 : decode cX12_canBe 23 = .ok (.ireturn, 1) := by decide +kernel
theorem dX12_canGain_0 : decode cX12_canGain 0 = .ok (.iload_n 1, 1) := by decide +kernel
theorem dX12_canGain_1 : decode cX12_canGain 1 = .ok (.iconst 1, 1) := by decide +kernel
theorem dX12_canGain_2 : decode cX12_canGain 2 = .ok (.bipush 20, 2) := by decide +kernel
theorem dX12_canGain_4 : decode cX12_canGain 4 = .ok (.invokestatic 310, 3) := by decide +kernel
theorem dX12_canGain_7 : decode cX12_canGain 7 = .ok (.ifCond .eq 16, 3) := by decide +kernel
theorem dX12_canGain_10 : decode cX12_canGain 10 = .ok (.aload_n 0, 1) := by decide +kernel
theorem dX12_canGain_11 : decode cX12_canGain 11 = .ok (.invokevirtual 351, 3) := by decide +kernel
theorem dX12_canGain_14 : decode cX12_canGain 14 = .ok (.bipush 8, 2) := by decide +kernel
theorem dX12_canGain_16 : decode cX12_canGain 16 = .ok (.if_icmp .ne 7, 3) := by decide +kernel
theorem dX12_canGain_23 : decode cX12_canGain 23 = .ok (.iconst 0, 1) := by decide +kernel
theorem dX12_canGain_24 : decode cX12_canGain 24 = .ok (.ireturn, 1) := by decide +kernel
theorem dX12_canMean_0 : decode cX12_canMean 0 = .ok (.aload_n 0, 1) := by decide +kernel
theorem dX12_canMean_1 : decode cX12_canMean 1 = .ok (.invokevirtual 396, 3) := by decide +kernel
theorem dX12_canMean_4 : decode cX12_canMean 4 = .ok (.ifCond .lt 15, 3) := by decide +kernel
theorem dX12_canMean_19 : decode cX12_canMean 19 = .ok (.iconst 0, 1) := by decide +kernel
theorem dX12_canMean_20 : decode cX12_canMean 20 = .ok (.ireturn, 1) := by decide +kernel
theorem dX12_canPlay_0 : decode cX12_canPlay 0 = .ok (.aload_n 0, 1) := by decide +kernel
theorem dX12_canPlay_1 : decode cX12_canPlay 1 = .ok (.invokevirtual 396, 3) := by decide +kernel
theorem dX12_canPlay_4 : decode cX12_canPlay 4 = .ok (.istore_n 2, 1) := by decide +kernel
theorem dX12_canPlay_5 : decode cX12_canPlay 5 = .ok (.iload_n 2, 1) := by decide +kernel
theorem dX12_canPlay_6 : decode cX12_canPlay 6 = .ok (.ifCond .lt 28, 3) := by decide +kernel
theorem dX12_canPlay_34 : decode cX12_canPlay 34 = .ok (.iconst 0, 1) := by decide +kernel
theorem dX12_canPlay_35 : decode cX12_canPlay 35 = .ok (.ireturn, 1) := by decide +kernel
theorem dX12_card_0 : decode cX12_card 0 = .ok (.aload_n 0, 1) := by decide +kernel
theorem dX12_card_1 : decode cX12_card 1 = .ok (.getfield 292, 3) := by decide +kernel
theorem dX12_card_4 : decode cX12_card 4 = .ok (.ifCond .eq 17, 3) := by decide +kernel
theorem dX12_card_21 : decode cX12_card 21 = .ok (.iconst (-1), 1) := by decide +kernel
theorem dX12_card_22 : decode cX12_card 22 = .ok (.ireturn, 1) := by decide +kernel
theorem dX12_cards_0 : decode cX12_cards 0 = .ok (.aload_n 0, 1) := by decide +kernel
theorem dX12_cards_1 : decode cX12_cards 1 = .ok (.getfield 43, 3) := by decide +kernel
theorem dX12_cards_4 : decode cX12_cards 4 = .ok (.aload_n 0, 1) := by decide +kernel
theorem dX12_cards_5 : decode cX12_cards 5 = .ok (.getfield 274, 3) := by decide +kernel
theorem dX12_cards_8 : decode cX12_cards 8 = .ok (.iaload, 1) := by decide +kernel
theorem dX12_cards_9 : decode cX12_cards 9 = .ok (.aload_n 0, 1) := by decide +kernel
theorem dX12_cards_10 : decode cX12_cards 10 = .ok (.getfield 46, 3) := by decide +kernel
theorem dX12_cards_13 : decode cX12_cards 13 = .ok (.aload_n 0, 1) := by decide +kernel
theorem dX12_cards_14 : decode cX12_cards 14 = .ok (.getfield 274, 3) := by decide +kernel
theorem dX12_cards_17 : decode cX12_cards 17 = .ok (.iaload, 1) := by decide +kernel
theorem dX12_cards_18 : decode cX12_cards 18 = .ok (.imul, 1) := by decide +kernel
theorem dX12_cards_19 : decode cX12_cards 19 = .ok (.ireturn, 1) := by decide +kernel
theorem dX12_choice_0 : decode cX12_choice 0 = .ok (.aload_n 0, 1) := by decide +kernel
theorem dX12_choice_1 : decode cX12_choice 1 = .ok (.iload_n 1, 1) := by decide +kernel
theorem dX12_choice_2 : decode cX12_choice 2 = .ok (.invokevirtual 572, 3) := by decide +kernel
theorem dX12_choice_5 : decode cX12_choice 5 = .ok (.ifCond .ne 5, 3) := by decide +kernel
theorem dX12_choice_8 : decode cX12_choice 8 = .ok (.iconst (-1), 1) := by decide +kernel
theorem dX12_choice_9 : decode cX12_choice 9 = .ok (.ireturn, 1) := by decide +kernel
theorem dX12_count_0 : decode cX12_count 0 = .ok (.iload_n 1, 1) := by decide +kernel
theorem dX12_count_1 : decode cX12_count 1 = .ok (.tableswitch 161 0 8 #[51, 61, 71, 76, 94, 104, 121, 126, 131], 51) := by decide +kernel
theorem dX12_count_52 : decode cX12_count 52 = .ok (.aload_n 0, 1) := by decide +kernel
theorem dX12_count_53 : decode cX12_count 53 = .ok (.getfield 43, 3) := by decide +kernel
theorem dX12_count_56 : decode cX12_count 56 = .ok (.aload_n 0, 1) := by decide +kernel
theorem dX12_count_57 : decode cX12_count 57 = .ok (.getfield 274, 3) := by decide +kernel
theorem dX12_count_60 : decode cX12_count 60 = .ok (.iaload, 1) := by decide +kernel
theorem dX12_count_61 : decode cX12_count 61 = .ok (.ireturn, 1) := by decide +kernel
theorem dX12_count_62 : decode cX12_count 62 = .ok (.aload_n 0, 1) := by decide +kernel
theorem dX12_count_63 : decode cX12_count 63 = .ok (.getfield 46, 3) := by decide +kernel
theorem dX12_count_66 : decode cX12_count 66 = .ok (.aload_n 0, 1) := by decide +kernel
theorem dX12_count_67 : decode cX12_count 67 = .ok (.getfield 274, 3) := by decide +kernel
theorem dX12_count_70 : decode cX12_count 70 = .ok (.iaload, 1) := by decide +kernel
theorem dX12_count_71 : decode cX12_count 71 = .ok (.ireturn, 1) := by decide +kernel
theorem dX12_count_72 : decode cX12_count 72 = .ok (.aload_n 0, 1) := by decide +kernel
theorem dX12_count_73 : decode cX12_count 73 = .ok (.invokevirtual 365, 3) := by decide +kernel
theorem dX12_count_76 : decode cX12_count 76 = .ok (.ireturn, 1) := by decide +kernel
theorem dX12_count_77 : decode cX12_count 77 = .ok (.aload_n 0, 1) := by decide +kernel
theorem dX12_count_78 : decode cX12_count 78 = .ok (.invokevirtual 386, 3) := by decide +kernel
theorem dX12_count_81 : decode cX12_count 81 = .ok (.iconst (-1), 1) := by decide +kernel
theorem dX12_count_82 : decode cX12_count 82 = .ok (.if_icmp .ne 8, 3) := by decide +kernel
theorem dX12_count_85 : decode cX12_count 85 = .ok (.bipush (-2), 2) := by decide +kernel
theorem dX12_count_87 : decode cX12_count 87 = .ok (.goto 7, 3) := by decide +kernel
theorem dX12_count_94 : decode cX12_count 94 = .ok (.ireturn, 1) := by decide +kernel
theorem dX12_count_95 : decode cX12_count 95 = .ok (.aload_n 0, 1) := by decide +kernel
theorem dX12_count_96 : decode cX12_count 96 = .ok (.getfield 52, 3) := by decide +kernel
theorem dX12_count_99 : decode cX12_count 99 = .ok (.aload_n 0, 1) := by decide +kernel
theorem dX12_count_100 : decode cX12_count 100 = .ok (.getfield 274, 3) := by decide +kernel
theorem dX12_count_103 : decode cX12_count 103 = .ok (.iaload, 1) := by decide +kernel
theorem dX12_count_104 : decode cX12_count 104 = .ok (.ireturn, 1) := by decide +kernel
theorem dX12_count_105 : decode cX12_count 105 = .ok (.aload_n 0, 1) := by decide +kernel
theorem dX12_count_106 : decode cX12_count 106 = .ok (.getfield 292, 3) := by decide +kernel
theorem dX12_count_109 : decode cX12_count 109 = .ok (.ifCond .eq 10, 3) := by decide +kernel
theorem dX12_count_119 : decode cX12_count 119 = .ok (.bipush (-2), 2) := by decide +kernel
theorem dX12_count_121 : decode cX12_count 121 = .ok (.ireturn, 1) := by decide +kernel
theorem dX12_count_122 : decode cX12_count 122 = .ok (.aload_n 0, 1) := by decide +kernel
theorem dX12_count_123 : decode cX12_count 123 = .ok (.getfield 299, 3) := by decide +kernel
theorem dX12_count_126 : decode cX12_count 126 = .ok (.ireturn, 1) := by decide +kernel
theorem dX12_count_127 : decode cX12_count 127 = .ok (.aload_n 0, 1) := by decide +kernel
theorem dX12_count_128 : decode cX12_count 128 = .ok (.getfield 206, 3) := by decide +kernel
theorem dX12_count_131 : decode cX12_count 131 = .ok (.ireturn, 1) := by decide +kernel
theorem dX12_count_132 : decode cX12_count 132 = .ok (.aload_n 0, 1) := by decide +kernel
theorem dX12_count_133 : decode cX12_count 133 = .ok (.getfield 184, 3) := by decide +kernel
theorem dX12_count_136 : decode cX12_count 136 = .ok (.iconst 0, 1) := by decide +kernel
theorem dX12_count_137 : decode cX12_count 137 = .ok (.baload, 1) := by decide +kernel
theorem dX12_count_138 : decode cX12_count 138 = .ok (.ifCond .eq 7, 3) := by decide +kernel
theorem dX12_count_145 : decode cX12_count 145 = .ok (.iconst 0, 1) := by decide +kernel
theorem dX12_count_146 : decode cX12_count 146 = .ok (.aload_n 0, 1) := by decide +kernel
theorem dX12_count_147 : decode cX12_count 147 = .ok (.getfield 184, 3) := by decide +kernel
theorem dX12_count_150 : decode cX12_count 150 = .ok (.iconst 1, 1) := by decide +kernel
theorem dX12_count_151 : decode cX12_count 151 = .ok (.baload, 1) := by decide +kernel
theorem dX12_count_152 : decode cX12_count 152 = .ok (.ifCond .eq 7, 3) := by decide +kernel
theorem dX12_count_159 : decode cX12_count 159 = .ok (.iconst 0, 1) := by decide +kernel
theorem dX12_count_160 : decode cX12_count 160 = .ok (.iadd, 1) := by decide +kernel
theorem dX12_count_161 : decode cX12_count 161 = .ok (.ireturn, 1) := by decide +kernel
theorem dX12_count_162 : decode cX12_count 162 = .ok (.aload_n 0, 1) := by decide +kernel
theorem dX12_count_163 : decode cX12_count 163 = .ok (.iload_n 1, 1) := by decide +kernel
theorem dX12_count_164 : decode cX12_count 164 = .ok (.bipush 10, 2) := by decide +kernel
theorem dX12_count_166 : decode cX12_count 166 = .ok (.isub, 1) := by decide +kernel
theorem dX12_count_167 : decode cX12_count 167 = .ok (.invokevirtual 630, 3) := by decide +kernel
theorem dX12_count_170 : decode cX12_count 170 = .ok (.ifCond .eq 44, 3) := by decide +kernel
theorem dX12_count_214 : decode cX12_count 214 = .ok (.iconst (-1), 1) := by decide +kernel
theorem dX12_count_215 : decode cX12_count 215 = .ok (.ireturn, 1) := by decide +kernel
theorem dX12_differs_0 : decode cX12_differs 0 = .ok (.aload_n 0, 1) := by decide +kernel
theorem dX12_differs_1 : decode cX12_differs 1 = .ok (.iload_n 1, 1) := by decide +kernel
theorem dX12_differs_2 : decode cX12_differs 2 = .ok (.invokevirtual 572, 3) := by decide +kernel
theorem dX12_differs_5 : decode cX12_differs 5 = .ok (.ifCond .ne 5, 3) := by decide +kernel
theorem dX12_differs_8 : decode cX12_differs 8 = .ok (.iconst (-1), 1) := by decide +kernel
theorem dX12_differs_9 : decode cX12_differs 9 = .ok (.ireturn, 1) := by decide +kernel
theorem dX12_gain_0 : decode cX12_gain 0 = .ok (.aload_n 0, 1) := by decide +kernel
theorem dX12_gain_1 : decode cX12_gain 1 = .ok (.iload_n 1, 1) := by decide +kernel
theorem dX12_gain_2 : decode cX12_gain 2 = .ok (.invokevirtual 455, 3) := by decide +kernel
theorem dX12_gain_5 : decode cX12_gain 5 = .ok (.ifCond .eq 11, 3) := by decide +kernel
theorem dX12_gain_8 : decode cX12_gain 8 = .ok (.aload_n 0, 1) := by decide +kernel
theorem dX12_gain_9 : decode cX12_gain 9 = .ok (.iload_n 3, 1) := by decide +kernel
theorem dX12_gain_10 : decode cX12_gain 10 = .ok (.invokevirtual 614, 3) := by decide +kernel
theorem dX12_gain_13 : decode cX12_gain 13 = .ok (.ifCond .ne 7, 3) := by decide +kernel
theorem dX12_gain_16 : decode cX12_gain 16 = .ok (.sipush (-1000), 3) := by decide +kernel
theorem dX12_gain_19 : decode cX12_gain 19 = .ok (.ireturn, 1) := by decide +kernel
theorem dX12_had_0 : decode cX12_had 0 = .ok (.aload_n 0, 1) := by decide +kernel
theorem dX12_had_1 : decode cX12_had 1 = .ok (.iload_n 1, 1) := by decide +kernel
theorem dX12_had_2 : decode cX12_had 2 = .ok (.iload 4, 2) := by decide +kernel
theorem dX12_had_4 : decode cX12_had 4 = .ok (.invokevirtual 502, 3) := by decide +kernel
theorem dX12_had_7 : decode cX12_had 7 = .ok (.ifCond .eq 23, 3) := by decide +kernel
theorem dX12_had_30 : decode cX12_had 30 = .ok (.iconst (-1), 1) := by decide +kernel
theorem dX12_had_31 : decode cX12_had 31 = .ok (.ireturn, 1) := by decide +kernel
theorem dX12_hand_0 : decode cX12_hand 0 = .ok (.aload_n 0, 1) := by decide +kernel
theorem dX12_hand_1 : decode cX12_hand 1 = .ok (.getfield 292, 3) := by decide +kernel
theorem dX12_hand_4 : decode cX12_hand 4 = .ok (.ifCond .eq 10, 3) := by decide +kernel
theorem dX12_hand_14 : decode cX12_hand 14 = .ok (.iconst (-1), 1) := by decide +kernel
theorem dX12_hand_15 : decode cX12_hand 15 = .ok (.goto 21, 3) := by decide +kernel
theorem dX12_hand_36 : decode cX12_hand 36 = .ok (.ireturn, 1) := by decide +kernel
theorem dX12_handSize_0 : decode cX12_handSize 0 = .ok (.aload_n 0, 1) := by decide +kernel
theorem dX12_handSize_1 : decode cX12_handSize 1 = .ok (.invokevirtual 351, 3) := by decide +kernel
theorem dX12_handSize_4 : decode cX12_handSize 4 = .ok (.iconst 4, 1) := by decide +kernel
theorem dX12_handSize_5 : decode cX12_handSize 5 = .ok (.idiv, 1) := by decide +kernel
theorem dX12_handSize_6 : decode cX12_handSize 6 = .ok (.ireturn, 1) := by decide +kernel
theorem dX12_hold_0 : decode cX12_hold 0 = .ok (.iload_n 1, 1) := by decide +kernel
theorem dX12_hold_1 : decode cX12_hold 1 = .ok (.iconst 0, 1) := by decide +kernel
theorem dX12_hold_2 : decode cX12_hold 2 = .ok (.iconst 1, 1) := by decide +kernel
theorem dX12_hold_3 : decode cX12_hold 3 = .ok (.invokestatic 310, 3) := by decide +kernel
theorem dX12_hold_6 : decode cX12_hold 6 = .ok (.ifCond .eq 10, 3) := by decide +kernel
theorem dX12_hold_9 : decode cX12_hold 9 = .ok (.aload_n 0, 1) := by decide +kernel
theorem dX12_hold_10 : decode cX12_hold 10 = .ok (.getfield 292, 3) := by decide +kernel
theorem dX12_hold_13 : decode cX12_hold 13 = .ok (.ifCond .ne 5, 3) := by decide +kernel
theorem dX12_hold_16 : decode cX12_hold 16 = .ok (.iconst 0, 1) := by decide +kernel
theorem dX12_hold_17 : decode cX12_hold 17 = .ok (.ireturn, 1) := by decide +kernel
theorem dX12_in_0 : decode cX12_in 0 = .ok (.iload_n 0, 1) := by decide +kernel
theorem dX12_in_1 : decode cX12_in 1 = .ok (.iload_n 1, 1) := by decide +kernel
theorem dX12_in_2 : decode cX12_in 2 = .ok (.if_icmp .lt 12, 3) := by decide +kernel
theorem dX12_in_5 : decode cX12_in 5 = .ok (.iload_n 0, 1) := by decide +kernel
theorem dX12_in_6 : decode cX12_in 6 = .ok (.iload_n 2, 1) := by decide +kernel
theorem dX12_in_7 : decode cX12_in 7 = .ok (.if_icmp .gt 7, 3) := by decide +kernel
theorem dX12_in_10 : decode cX12_in 10 = .ok (.iconst 1, 1) := by decide +kernel
theorem dX12_in_11 : decode cX12_in 11 = .ok (.goto 4, 3) := by decide +kernel
theorem dX12_in_14 : decode cX12_in 14 = .ok (.iconst 0, 1) := by decide +kernel
theorem dX12_in_15 : decode cX12_in 15 = .ok (.ireturn, 1) := by decide +kernel
theorem dX12_isCustom_0 : decode cX12_isCustom 0 = .ok (.iload_n 1, 1) := by decide +kernel
theorem dX12_isCustom_1 : decode cX12_isCustom 1 = .ok (.iconst 0, 1) := by decide +kernel
theorem dX12_isCustom_2 : decode cX12_isCustom 2 = .ok (.aload_n 0, 1) := by decide +kernel
theorem dX12_isCustom_3 : decode cX12_isCustom 3 = .ok (.getfield 52, 3) := by decide +kernel
theorem dX12_isCustom_6 : decode cX12_isCustom 6 = .ok (.aload_n 0, 1) := by decide +kernel
theorem dX12_isCustom_7 : decode cX12_isCustom 7 = .ok (.getfield 274, 3) := by decide +kernel
theorem dX12_isCustom_10 : decode cX12_isCustom 10 = .ok (.iaload, 1) := by decide +kernel
theorem dX12_isCustom_11 : decode cX12_isCustom 11 = .ok (.iconst 1, 1) := by decide +kernel
theorem dX12_isCustom_12 : decode cX12_isCustom 12 = .ok (.isub, 1) := by decide +kernel
theorem dX12_isCustom_13 : decode cX12_isCustom 13 = .ok (.invokestatic 310, 3) := by decide +kernel
theorem dX12_isCustom_16 : decode cX12_isCustom 16 = .ok (.ireturn, 1) := by decide +kernel
theorem dX12_kept_0 : decode cX12_kept 0 = .ok (.iload_n 1, 1) := by decide +kernel
theorem dX12_kept_1 : decode cX12_kept 1 = .ok (.iconst 0, 1) := by decide +kernel
theorem dX12_kept_2 : decode cX12_kept 2 = .ok (.aload_n 0, 1) := by decide +kernel
theorem dX12_kept_3 : decode cX12_kept 3 = .ok (.getfield 299, 3) := by decide +kernel
theorem dX12_kept_6 : decode cX12_kept 6 = .ok (.invokestatic 310, 3) := by decide +kernel
theorem dX12_kept_9 : decode cX12_kept 9 = .ok (.ifCond .ne 5, 3) := by decide +kernel
theorem dX12_kept_12 : decode cX12_kept 12 = .ok (.iconst (-1), 1) := by decide +kernel
theorem dX12_kept_13 : decode cX12_kept 13 = .ok (.ireturn, 1) := by decide +kernel
theorem dX12_kept_14 : decode cX12_kept 14 = .ok (.iconst 0, 1) := by decide +kernel
theorem dX12_kept_15 : decode cX12_kept 15 = .ok (.istore_n 2, 1) := by decide +kernel
theorem dX12_kept_16 : decode cX12_kept 16 = .ok (.iconst 0, 1) := by decide +kernel
theorem dX12_kept_17 : decode cX12_kept 17 = .ok (.istore_n 3, 1) := by decide +kernel
theorem dX12_kept_18 : decode cX12_kept 18 = .ok (.iload_n 3, 1) := by decide +kernel
theorem dX12_kept_19 : decode cX12_kept 19 = .ok (.aload_n 0, 1) := by decide +kernel
theorem dX12_kept_20 : decode cX12_kept 20 = .ok (.getfield 52, 3) := by decide +kernel
theorem dX12_kept_23 : decode cX12_kept 23 = .ok (.aload_n 0, 1) := by decide +kernel
theorem dX12_kept_24 : decode cX12_kept 24 = .ok (.getfield 274, 3) := by decide +kernel
theorem dX12_kept_27 : decode cX12_kept 27 = .ok (.iaload, 1) := by decide +kernel
theorem dX12_kept_28 : decode cX12_kept 28 = .ok (.if_icmp .ge 25, 3) := by decide +kernel
theorem dX12_kept_53 : decode cX12_kept 53 = .ok (.iload_n 2, 1) := by decide +kernel
theorem dX12_kept_54 : decode cX12_kept 54 = .ok (.ireturn, 1) := by decide +kernel
theorem dX12_knows_0 : decode cX12_knows 0 = .ok (.aload_n 0, 1) := by decide +kernel
theorem dX12_knows_1 : decode cX12_knows 1 = .ok (.iload_n 1, 1) := by decide +kernel
theorem dX12_knows_2 : decode cX12_knows 2 = .ok (.iload 4, 2) := by decide +kernel
theorem dX12_knows_4 : decode cX12_knows 4 = .ok (.invokevirtual 502, 3) := by decide +kernel
theorem dX12_knows_7 : decode cX12_knows 7 = .ok (.ifCond .eq 23, 3) := by decide +kernel
theorem dX12_knows_30 : decode cX12_knows 30 = .ok (.iconst (-1), 1) := by decide +kernel
theorem dX12_knows_31 : decode cX12_knows 31 = .ok (.ireturn, 1) := by decide +kernel
theorem dX12_lead_0 : decode cX12_lead 0 = .ok (.aload_n 0, 1) := by decide +kernel
theorem dX12_lead_1 : decode cX12_lead 1 = .ok (.getfield 292, 3) := by decide +kernel
theorem dX12_lead_4 : decode cX12_lead 4 = .ok (.ifCond .eq 17, 3) := by decide +kernel
theorem dX12_lead_21 : decode cX12_lead 21 = .ok (.iconst 0, 1) := by decide +kernel
theorem dX12_lead_22 : decode cX12_lead 22 = .ok (.ireturn, 1) := by decide +kernel
theorem dX12_lies_0 : decode cX12_lies 0 = .ok (.aload_n 0, 1) := by decide +kernel
theorem dX12_lies_1 : decode cX12_lies 1 = .ok (.invokevirtual 396, 3) := by decide +kernel
theorem dX12_lies_4 : decode cX12_lies 4 = .ok (.ifCond .lt 22, 3) := by decide +kernel
theorem dX12_lies_26 : decode cX12_lies 26 = .ok (.iconst (-1), 1) := by decide +kernel
theorem dX12_lies_27 : decode cX12_lies 27 = .ok (.ireturn, 1) := by decide +kernel
theorem dX12_line_0 : decode cX12_line 0 = .ok (.aload_n 0, 1) := by decide +kernel
theorem dX12_line_1 : decode cX12_line 1 = .ok (.getfield 292, 3) := by decide +kernel
theorem dX12_line_4 : decode cX12_line 4 = .ok (.ifCond .eq 20, 3) := by decide +kernel
theorem dX12_line_24 : decode cX12_line 24 = .ok (.iconst (-1), 1) := by decide +kernel
theorem dX12_line_25 : decode cX12_line 25 = .ok (.ireturn, 1) := by decide +kernel
theorem dX12_loss_0 : decode cX12_loss 0 = .ok (.aload_n 0, 1) := by decide +kernel
theorem dX12_loss_1 : decode cX12_loss 1 = .ok (.iload_n 1, 1) := by decide +kernel
theorem dX12_loss_2 : decode cX12_loss 2 = .ok (.invokevirtual 572, 3) := by decide +kernel
theorem dX12_loss_5 : decode cX12_loss 5 = .ok (.ifCond .ne 5, 3) := by decide +kernel
theorem dX12_loss_8 : decode cX12_loss 8 = .ok (.iconst (-1), 1) := by decide +kernel
theorem dX12_loss_9 : decode cX12_loss 9 = .ok (.ireturn, 1) := by decide +kernel
theorem dX12_may_0 : decode cX12_may 0 = .ok (.aload_n 0, 1) := by decide +kernel
theorem dX12_may_1 : decode cX12_may 1 = .ok (.invokevirtual 405, 3) := by decide +kernel
theorem dX12_may_4 : decode cX12_may 4 = .ok (.ireturn, 1) := by decide +kernel
theorem dX12_mayNow_0 : decode cX12_mayNow 0 = .ok (.aload_n 0, 1) := by decide +kernel
theorem dX12_mayNow_1 : decode cX12_mayNow 1 = .ok (.invokevirtual 396, 3) := by decide +kernel
theorem dX12_mayNow_4 : decode cX12_mayNow 4 = .ok (.istore_n 1, 1) := by decide +kernel
theorem dX12_mayNow_5 : decode cX12_mayNow 5 = .ok (.iload_n 1, 1) := by decide +kernel
theorem dX12_mayNow_6 : decode cX12_mayNow 6 = .ok (.ifCond .ge 5, 3) := by decide +kernel
theorem dX12_mayNow_9 : decode cX12_mayNow 9 = .ok (.iconst 0, 1) := by decide +kernel
theorem dX12_mayNow_10 : decode cX12_mayNow 10 = .ok (.ireturn, 1) := by decide +kernel
theorem dX12_mean_0 : decode cX12_mean 0 = .ok (.aload_n 0, 1) := by decide +kernel
theorem dX12_mean_1 : decode cX12_mean 1 = .ok (.iload_n 2, 1) := by decide +kernel
theorem dX12_mean_2 : decode cX12_mean 2 = .ok (.invokevirtual 572, 3) := by decide +kernel
theorem dX12_mean_5 : decode cX12_mean 5 = .ok (.ifCond .eq 22, 3) := by decide +kernel
theorem dX12_mean_27 : decode cX12_mean 27 = .ok (.ldc2_w 575, 3) := by decide +kernel
theorem dX12_mean_30 : decode cX12_mean 30 = .ok (.lreturn, 1) := by decide +kernel
theorem dX12_open_0 : decode cX12_open 0 = .ok (.aload_n 0, 1) := by decide +kernel
theorem dX12_open_1 : decode cX12_open 1 = .ok (.getfield 292, 3) := by decide +kernel
theorem dX12_open_4 : decode cX12_open 4 = .ok (.ifCond .eq 10, 3) := by decide +kernel
theorem dX12_open_14 : decode cX12_open 14 = .ok (.bipush (-2), 2) := by decide +kernel
theorem dX12_open_16 : decode cX12_open 16 = .ok (.ireturn, 1) := by decide +kernel
theorem dX12_openings_0 : decode cX12_openings 0 = .ok (.aload_n 0, 1) := by decide +kernel
theorem dX12_openings_1 : decode cX12_openings 1 = .ok (.iload_n 1, 1) := by decide +kernel
theorem dX12_openings_2 : decode cX12_openings 2 = .ok (.invokevirtual 630, 3) := by decide +kernel
theorem dX12_openings_5 : decode cX12_openings 5 = .ok (.ifCond .eq 12, 3) := by decide +kernel
theorem dX12_openings_17 : decode cX12_openings 17 = .ok (.iconst (-1), 1) := by decide +kernel
theorem dX12_openings_18 : decode cX12_openings 18 = .ok (.ireturn, 1) := by decide +kernel
theorem dX12_place_0 : decode cX12_place 0 = .ok (.aload_n 0, 1) := by decide +kernel
theorem dX12_place_1 : decode cX12_place 1 = .ok (.getfield 37, 3) := by decide +kernel
theorem dX12_place_4 : decode cX12_place 4 = .ok (.ireturn, 1) := by decide +kernel
theorem dX12_play_0 : decode cX12_play 0 = .ok (.aload_n 0, 1) := by decide +kernel
theorem dX12_play_1 : decode cX12_play 1 = .ok (.iload_n 1, 1) := by decide +kernel
theorem dX12_play_2 : decode cX12_play 2 = .ok (.invokevirtual 411, 3) := by decide +kernel
theorem dX12_play_5 : decode cX12_play 5 = .ok (.ifCond .ne 5, 3) := by decide +kernel
theorem dX12_play_8 : decode cX12_play 8 = .ok (.iconst (-1), 1) := by decide +kernel
theorem dX12_play_9 : decode cX12_play 9 = .ok (.ireturn, 1) := by decide +kernel
theorem dX12_quarrel_0 : decode cX12_quarrel 0 = .ok (.aload_n 0, 1) := by decide +kernel
theorem dX12_quarrel_1 : decode cX12_quarrel 1 = .ok (.iload_n 1, 1) := by decide +kernel
theorem dX12_quarrel_2 : decode cX12_quarrel 2 = .ok (.invokevirtual 630, 3) := by decide +kernel
theorem dX12_quarrel_5 : decode cX12_quarrel 5 = .ok (.ifCond .eq 16, 3) := by decide +kernel
theorem dX12_quarrel_21 : decode cX12_quarrel 21 = .ok (.iconst (-1), 1) := by decide +kernel
theorem dX12_quarrel_22 : decode cX12_quarrel 22 = .ok (.ireturn, 1) := by decide +kernel
theorem dX12_restore_0 : decode cX12_restore 0 = .ok (.iload_n 1, 1) := by decide +kernel
theorem dX12_restore_1 : decode cX12_restore 1 = .ok (.iconst 0, 1) := by decide +kernel
theorem dX12_restore_2 : decode cX12_restore 2 = .ok (.iconst 1, 1) := by decide +kernel
theorem dX12_restore_3 : decode cX12_restore 3 = .ok (.invokestatic 310, 3) := by decide +kernel
theorem dX12_restore_6 : decode cX12_restore 6 = .ok (.ifCond .eq 12, 3) := by decide +kernel
theorem dX12_restore_9 : decode cX12_restore 9 = .ok (.aload_n 0, 1) := by decide +kernel
theorem dX12_restore_10 : decode cX12_restore 10 = .ok (.getfield 184, 3) := by decide +kernel
theorem dX12_restore_13 : decode cX12_restore 13 = .ok (.iload_n 1, 1) := by decide +kernel
theorem dX12_restore_14 : decode cX12_restore 14 = .ok (.baload, 1) := by decide +kernel
theorem dX12_restore_15 : decode cX12_restore 15 = .ok (.ifCond .ne 5, 3) := by decide +kernel
theorem dX12_restore_18 : decode cX12_restore 18 = .ok (.iconst 0, 1) := by decide +kernel
theorem dX12_restore_19 : decode cX12_restore 19 = .ok (.ireturn, 1) := by decide +kernel
theorem dX12_revoke_0 : decode cX12_revoke 0 = .ok (.aload_n 0, 1) := by decide +kernel
theorem dX12_revoke_1 : decode cX12_revoke 1 = .ok (.iload_n 1, 1) := by decide +kernel
theorem dX12_revoke_2 : decode cX12_revoke 2 = .ok (.invokevirtual 411, 3) := by decide +kernel
theorem dX12_revoke_5 : decode cX12_revoke 5 = .ok (.ifCond .eq 15, 3) := by decide +kernel
theorem dX12_revoke_20 : decode cX12_revoke 20 = .ok (.iconst (-1), 1) := by decide +kernel
theorem dX12_revoke_21 : decode cX12_revoke 21 = .ok (.ireturn, 1) := by decide +kernel
theorem dX12_revokes_0 : decode cX12_revokes 0 = .ok (.iload_n 1, 1) := by decide +kernel
theorem dX12_revokes_1 : decode cX12_revokes 1 = .ok (.iconst 0, 1) := by decide +kernel
theorem dX12_revokes_2 : decode cX12_revokes 2 = .ok (.iconst 2, 1) := by decide +kernel
theorem dX12_revokes_3 : decode cX12_revokes 3 = .ok (.invokestatic 310, 3) := by decide +kernel
theorem dX12_revokes_6 : decode cX12_revokes 6 = .ok (.ifCond .ne 5, 3) := by decide +kernel
theorem dX12_revokes_9 : decode cX12_revokes 9 = .ok (.iconst (-1), 1) := by decide +kernel
theorem dX12_revokes_10 : decode cX12_revokes 10 = .ok (.ireturn, 1) := by decide +kernel
theorem dX12_revokes_11 : decode cX12_revokes 11 = .ok (.iconst 0, 1) := by decide +kernel
theorem dX12_revokes_12 : decode cX12_revokes 12 = .ok (.istore_n 2, 1) := by decide +kernel
theorem dX12_revokes_13 : decode cX12_revokes 13 = .ok (.iconst 0, 1) := by decide +kernel
theorem dX12_revokes_14 : decode cX12_revokes 14 = .ok (.istore_n 3, 1) := by decide +kernel
theorem dX12_revokes_15 : decode cX12_revokes 15 = .ok (.bipush (-2), 2) := by decide +kernel
theorem dX12_revokes_17 : decode cX12_revokes 17 = .ok (.istore 4, 2) := by decide +kernel
theorem dX12_revokes_19 : decode cX12_revokes 19 = .ok (.iconst 0, 1) := by decide +kernel
theorem dX12_revokes_20 : decode cX12_revokes 20 = .ok (.istore 5, 2) := by decide +kernel
theorem dX12_revokes_22 : decode cX12_revokes 22 = .ok (.iload 5, 2) := by decide +kernel
theorem dX12_revokes_24 : decode cX12_revokes 24 = .ok (.aload_n 0, 1) := by decide +kernel
theorem dX12_revokes_25 : decode cX12_revokes 25 = .ok (.getfield 296, 3) := by decide +kernel
theorem dX12_revokes_28 : decode cX12_revokes 28 = .ok (.if_icmp .ge 63, 3) := by decide +kernel
theorem dX12_revokes_91 : decode cX12_revokes 91 = .ok (.iload_n 1, 1) := by decide +kernel
theorem dX12_revokes_92 : decode cX12_revokes 92 = .ok (.ifCond .ne 7, 3) := by decide +kernel
theorem dX12_revokes_95 : decode cX12_revokes 95 = .ok (.iload_n 2, 1) := by decide +kernel
theorem dX12_revokes_96 : decode cX12_revokes 96 = .ok (.goto 14, 3) := by decide +kernel
theorem dX12_revokes_99 : decode cX12_revokes 99 = .ok (.iload_n 1, 1) := by decide +kernel
theorem dX12_revokes_100 : decode cX12_revokes 100 = .ok (.iconst 1, 1) := by decide +kernel
theorem dX12_revokes_101 : decode cX12_revokes 101 = .ok (.if_icmp .ne 7, 3) := by decide +kernel
theorem dX12_revokes_104 : decode cX12_revokes 104 = .ok (.iload_n 3, 1) := by decide +kernel
theorem dX12_revokes_105 : decode cX12_revokes 105 = .ok (.goto 5, 3) := by decide +kernel
theorem dX12_revokes_108 : decode cX12_revokes 108 = .ok (.iload 4, 2) := by decide +kernel
theorem dX12_revokes_110 : decode cX12_revokes 110 = .ok (.ireturn, 1) := by decide +kernel
theorem dX12_safe_0 : decode cX12_safe 0 = .ok (.aload_n 0, 1) := by decide +kernel
theorem dX12_safe_1 : decode cX12_safe 1 = .ok (.iload_n 1, 1) := by decide +kernel
theorem dX12_safe_2 : decode cX12_safe 2 = .ok (.invokevirtual 572, 3) := by decide +kernel
theorem dX12_safe_5 : decode cX12_safe 5 = .ok (.ifCond .eq 12, 3) := by decide +kernel
theorem dX12_safe_17 : decode cX12_safe 17 = .ok (.iconst (-1), 1) := by decide +kernel
theorem dX12_safe_18 : decode cX12_safe 18 = .ok (.ireturn, 1) := by decide +kernel
theorem dX12_says_0 : decode cX12_says 0 = .ok (.aload_n 0, 1) := by decide +kernel
theorem dX12_says_1 : decode cX12_says 1 = .ok (.getfield 292, 3) := by decide +kernel
theorem dX12_says_4 : decode cX12_says 4 = .ok (.ifCond .eq 34, 3) := by decide +kernel
theorem dX12_says_38 : decode cX12_says 38 = .ok (.iconst (-1), 1) := by decide +kernel
theorem dX12_says_39 : decode cX12_says 39 = .ok (.ireturn, 1) := by decide +kernel
theorem dX12_spread_0 : decode cX12_spread 0 = .ok (.aload_n 0, 1) := by decide +kernel
theorem dX12_spread_1 : decode cX12_spread 1 = .ok (.iload_n 2, 1) := by decide +kernel
theorem dX12_spread_2 : decode cX12_spread 2 = .ok (.invokevirtual 572, 3) := by decide +kernel
theorem dX12_spread_5 : decode cX12_spread 5 = .ok (.ifCond .eq 31, 3) := by decide +kernel
theorem dX12_spread_36 : decode cX12_spread 36 = .ok (.iconst (-1), 1) := by decide +kernel
theorem dX12_spread_37 : decode cX12_spread 37 = .ok (.ireturn, 1) := by decide +kernel
theorem dX12_sure_0 : decode cX12_sure 0 = .ok (.aload_n 0, 1) := by decide +kernel
theorem dX12_sure_1 : decode cX12_sure 1 = .ok (.iload_n 1, 1) := by decide +kernel
theorem dX12_sure_2 : decode cX12_sure 2 = .ok (.iload_n 2, 1) := by decide +kernel
theorem dX12_sure_3 : decode cX12_sure 3 = .ok (.invokevirtual 502, 3) := by decide +kernel
theorem dX12_sure_6 : decode cX12_sure 6 = .ok (.ifCond .ne 5, 3) := by decide +kernel
theorem dX12_sure_9 : decode cX12_sure 9 = .ok (.iconst (-1), 1) := by decide +kernel
theorem dX12_sure_10 : decode cX12_sure 10 = .ok (.ireturn, 1) := by decide +kernel
theorem dX12_told_0 : decode cX12_told 0 = .ok (.aload_n 0, 1) := by decide +kernel
theorem dX12_told_1 : decode cX12_told 1 = .ok (.iload_n 1, 1) := by decide +kernel
theorem dX12_told_2 : decode cX12_told 2 = .ok (.invokevirtual 630, 3) := by decide +kernel
theorem dX12_told_5 : decode cX12_told 5 = .ok (.ifCond .eq 43, 3) := by decide +kernel
theorem dX12_told_48 : decode cX12_told 48 = .ok (.iconst (-1), 1) := by decide +kernel
theorem dX12_told_49 : decode cX12_told 49 = .ok (.ireturn, 1) := by decide +kernel
theorem dX12_tricks_0 : decode cX12_tricks 0 = .ok (.iload_n 1, 1) := by decide +kernel
theorem dX12_tricks_1 : decode cX12_tricks 1 = .ok (.iconst 0, 1) := by decide +kernel
theorem dX12_tricks_2 : decode cX12_tricks 2 = .ok (.iconst 1, 1) := by decide +kernel
theorem dX12_tricks_3 : decode cX12_tricks 3 = .ok (.invokestatic 310, 3) := by decide +kernel
theorem dX12_tricks_6 : decode cX12_tricks 6 = .ok (.ifCond .ne 5, 3) := by decide +kernel
theorem dX12_tricks_9 : decode cX12_tricks 9 = .ok (.iconst (-1), 1) := by decide +kernel
theorem dX12_tricks_10 : decode cX12_tricks 10 = .ok (.ireturn, 1) := by decide +kernel
theorem dX12_tricks_11 : decode cX12_tricks 11 = .ok (.iconst 0, 1) := by decide +kernel
theorem dX12_tricks_12 : decode cX12_tricks 12 = .ok (.istore_n 2, 1) := by decide +kernel
theorem dX12_tricks_13 : decode cX12_tricks 13 = .ok (.iconst 0, 1) := by decide +kernel
theorem dX12_tricks_14 : decode cX12_tricks 14 = .ok (.istore_n 3, 1) := by decide +kernel
theorem dX12_tricks_15 : decode cX12_tricks 15 = .ok (.iload_n 3, 1) := by decide +kernel
theorem dX12_tricks_16 : decode cX12_tricks 16 = .ok (.aload_n 0, 1) := by decide +kernel
theorem dX12_tricks_17 : decode cX12_tricks 17 = .ok (.getfield 296, 3) := by decide +kernel
theorem dX12_tricks_20 : decode cX12_tricks 20 = .ok (.iconst 4, 1) := by decide +kernel
theorem dX12_tricks_21 : decode cX12_tricks 21 = .ok (.idiv, 1) := by decide +kernel
theorem dX12_tricks_22 : decode cX12_tricks 22 = .ok (.if_icmp .ge 23, 3) := by decide +kernel
theorem dX12_tricks_45 : decode cX12_tricks 45 = .ok (.iload_n 2, 1) := by decide +kernel
theorem dX12_tricks_46 : decode cX12_tricks 46 = .ok (.ireturn, 1) := by decide +kernel
theorem dX12_trumpSuit_0 : decode cX12_trumpSuit 0 = .ok (.aload_n 0, 1) := by decide +kernel
theorem dX12_trumpSuit_1 : decode cX12_trumpSuit 1 = .ok (.getfield 49, 3) := by decide +kernel
theorem dX12_trumpSuit_4 : decode cX12_trumpSuit 4 = .ok (.aload_n 0, 1) := by decide +kernel
theorem dX12_trumpSuit_5 : decode cX12_trumpSuit 5 = .ok (.getfield 274, 3) := by decide +kernel
theorem dX12_trumpSuit_8 : decode cX12_trumpSuit 8 = .ok (.iaload, 1) := by decide +kernel
theorem dX12_trumpSuit_9 : decode cX12_trumpSuit 9 = .ok (.aload_n 0, 1) := by decide +kernel
theorem dX12_trumpSuit_10 : decode cX12_trumpSuit 10 = .ok (.getfield 43, 3) := by decide +kernel
theorem dX12_trumpSuit_13 : decode cX12_trumpSuit 13 = .ok (.aload_n 0, 1) := by decide +kernel
theorem dX12_trumpSuit_14 : decode cX12_trumpSuit 14 = .ok (.getfield 274, 3) := by decide +kernel
theorem dX12_trumpSuit_17 : decode cX12_trumpSuit 17 = .ok (.iaload, 1) := by decide +kernel
theorem dX12_trumpSuit_18 : decode cX12_trumpSuit 18 = .ok (.if_icmp .ge 15, 3) := by decide +kernel
theorem dX12_trumpSuit_21 : decode cX12_trumpSuit 21 = .ok (.aload_n 0, 1) := by decide +kernel
theorem dX12_trumpSuit_22 : decode cX12_trumpSuit 22 = .ok (.getfield 49, 3) := by decide +kernel
theorem dX12_trumpSuit_25 : decode cX12_trumpSuit 25 = .ok (.aload_n 0, 1) := by decide +kernel
theorem dX12_trumpSuit_26 : decode cX12_trumpSuit 26 = .ok (.getfield 274, 3) := by decide +kernel
theorem dX12_trumpSuit_29 : decode cX12_trumpSuit 29 = .ok (.iaload, 1) := by decide +kernel
theorem dX12_trumpSuit_30 : decode cX12_trumpSuit 30 = .ok (.goto 4, 3) := by decide +kernel
theorem dX12_trumpSuit_34 : decode cX12_trumpSuit 34 = .ok (.ireturn, 1) := by decide +kernel
theorem dX12_turn_0 : decode cX12_turn 0 = .ok (.aload_n 0, 1) := by decide +kernel
theorem dX12_turn_1 : decode cX12_turn 1 = .ok (.invokevirtual 396, 3) := by decide +kernel
theorem dX12_turn_4 : decode cX12_turn 4 = .ok (.ireturn, 1) := by decide +kernel
theorem dX12_turnNow_0 : decode cX12_turnNow 0 = .ok (.aload_n 0, 1) := by decide +kernel
theorem dX12_turnNow_1 : decode cX12_turnNow 1 = .ok (.getfield 292, 3) := by decide +kernel
theorem dX12_turnNow_4 : decode cX12_turnNow 4 = .ok (.ifCond .eq 14, 3) := by decide +kernel
theorem dX12_turnNow_18 : decode cX12_turnNow 18 = .ok (.bipush (-2), 2) := by decide +kernel
theorem dX12_turnNow_20 : decode cX12_turnNow 20 = .ok (.ireturn, 1) := by decide +kernel
theorem dX12_undo_0 : decode cX12_undo 0 = .ok (.aload_n 0, 1) := by decide +kernel
theorem dX12_undo_1 : decode cX12_undo 1 = .ok (.getfield 296, 3) := by decide +kernel
theorem dX12_undo_4 : decode cX12_undo 4 = .ok (.ifCond .ne 5, 3) := by decide +kernel
theorem dX12_undo_7 : decode cX12_undo 7 = .ok (.iconst (-1), 1) := by decide +kernel
theorem dX12_undo_8 : decode cX12_undo 8 = .ok (.ireturn, 1) := by decide +kernel
theorem dX12_winner_0 : decode cX12_winner 0 = .ok (.iload_n 1, 1) := by decide +kernel
theorem dX12_winner_1 : decode cX12_winner 1 = .ok (.iconst 0, 1) := by decide +kernel
theorem dX12_winner_2 : decode cX12_winner 2 = .ok (.aload_n 0, 1) := by decide +kernel
theorem dX12_winner_3 : decode cX12_winner 3 = .ok (.getfield 296, 3) := by decide +kernel
theorem dX12_winner_6 : decode cX12_winner 6 = .ok (.iconst 4, 1) := by decide +kernel
theorem dX12_winner_7 : decode cX12_winner 7 = .ok (.idiv, 1) := by decide +kernel
theorem dX12_winner_8 : decode cX12_winner 8 = .ok (.iconst 1, 1) := by decide +kernel
theorem dX12_winner_9 : decode cX12_winner 9 = .ok (.isub, 1) := by decide +kernel
theorem dX12_winner_10 : decode cX12_winner 10 = .ok (.invokestatic 310, 3) := by decide +kernel
theorem dX12_winner_13 : decode cX12_winner 13 = .ok (.ifCond .eq 11, 3) := by decide +kernel
theorem dX12_winner_24 : decode cX12_winner 24 = .ok (.iconst (-1), 1) := by decide +kernel
theorem dX12_winner_25 : decode cX12_winner 25 = .ok (.ireturn, 1) := by decide +kernel
theorem dX12_worth_0 : decode cX12_worth 0 = .ok (.aload_n 0, 1) := by decide +kernel
theorem dX12_worth_1 : decode cX12_worth 1 = .ok (.iload_n 1, 1) := by decide +kernel
theorem dX12_worth_2 : decode cX12_worth 2 = .ok (.invokevirtual 572, 3) := by decide +kernel
theorem dX12_worth_5 : decode cX12_worth 5 = .ok (.ifCond .eq 10, 3) := by decide +kernel
theorem dX12_worth_15 : decode cX12_worth 15 = .ok (.ldc2_w 594, 3) := by decide +kernel
theorem dX12_worth_18 : decode cX12_worth 18 = .ok (.lreturn, 1) := by decide +kernel
theorem dX3_isOver_0 : decode cX3_isOver 0 = .ok (.aload_n 0, 1) := by decide +kernel
theorem dX3_isOver_1 : decode cX3_isOver 1 = .ok (.getfield 57, 3) := by decide +kernel
theorem dX3_isOver_4 : decode cX3_isOver 4 = .ok (.ifCond .eq 21, 3) := by decide +kernel
theorem dX3_isOver_25 : decode cX3_isOver 25 = .ok (.iconst 0, 1) := by decide +kernel
theorem dX3_isOver_26 : decode cX3_isOver 26 = .ok (.ireturn, 1) := by decide +kernel
theorem dX3_legal_0 : decode cX3_legal 0 = .ok (.aload_n 0, 1) := by decide +kernel
theorem dX3_legal_1 : decode cX3_legal 1 = .ok (.getfield 18, 3) := by decide +kernel
theorem dX3_legal_4 : decode cX3_legal 4 = .ok (.ifCond .ge 5, 3) := by decide +kernel
theorem dX3_legal_7 : decode cX3_legal 7 = .ok (.iconst 0, 1) := by decide +kernel
theorem dX3_legal_8 : decode cX3_legal 8 = .ok (.ireturn, 1) := by decide +kernel
theorem dX3_wonBy_0 : decode cX3_wonBy 0 = .ok (.iconst 0, 1) := by decide +kernel
theorem dX3_wonBy_1 : decode cX3_wonBy 1 = .ok (.istore_n 2, 1) := by decide +kernel
theorem dX3_wonBy_2 : decode cX3_wonBy 2 = .ok (.iconst 0, 1) := by decide +kernel
theorem dX3_wonBy_3 : decode cX3_wonBy 3 = .ok (.istore_n 3, 1) := by decide +kernel
theorem dX3_wonBy_4 : decode cX3_wonBy 4 = .ok (.iload_n 3, 1) := by decide +kernel
theorem dX3_wonBy_5 : decode cX3_wonBy 5 = .ok (.aload_n 0, 1) := by decide +kernel
theorem dX3_wonBy_6 : decode cX3_wonBy 6 = .ok (.getfield 61, 3) := by decide +kernel
theorem dX3_wonBy_9 : decode cX3_wonBy 9 = .ok (.iconst 4, 1) := by decide +kernel
theorem dX3_wonBy_10 : decode cX3_wonBy 10 = .ok (.idiv, 1) := by decide +kernel
theorem dX3_wonBy_11 : decode cX3_wonBy 11 = .ok (.if_icmp .ge 29, 3) := by decide +kernel
theorem dX3_wonBy_40 : decode cX3_wonBy 40 = .ok (.iload_n 2, 1) := by decide +kernel
theorem dX3_wonBy_41 : decode cX3_wonBy 41 = .ok (.ireturn, 1) := by decide +kernel
theorem dX7_handsWithOneCard_0 : decode cX7_handsWithOneCard 0 = .ok (.aload_n 0, 1) := by decide +kernel
theorem dX7_handsWithOneCard_1 : decode cX7_handsWithOneCard 1 = .ok (.getfield 9, 3) := by decide +kernel
theorem dX7_handsWithOneCard_4 : decode cX7_handsWithOneCard 4 = .ok (.getfield 19, 3) := by decide +kernel
theorem dX7_handsWithOneCard_7 : decode cX7_handsWithOneCard 7 = .ok (.ifCond .le 29, 3) := by decide +kernel
theorem dX7_handsWithOneCard_10 : decode cX7_handsWithOneCard 10 = .ok (.aload_n 0, 1) := by decide +kernel
theorem dX7_handsWithOneCard_11 : decode cX7_handsWithOneCard 11 = .ok (.getfield 9, 3) := by decide +kernel
theorem dX7_handsWithOneCard_14 : decode cX7_handsWithOneCard 14 = .ok (.getfield 25, 3) := by decide +kernel
theorem dX7_handsWithOneCard_17 : decode cX7_handsWithOneCard 17 = .ok (.aload_n 0, 1) := by decide +kernel
theorem dX7_handsWithOneCard_18 : decode cX7_handsWithOneCard 18 = .ok (.getfield 9, 3) := by decide +kernel
theorem dX7_handsWithOneCard_21 : decode cX7_handsWithOneCard 21 = .ok (.getfield 28, 3) := by decide +kernel
theorem dX7_handsWithOneCard_24 : decode cX7_handsWithOneCard 24 = .ok (.imul, 1) := by decide +kernel
theorem dX7_handsWithOneCard_25 : decode cX7_handsWithOneCard 25 = .ok (.aload_n 0, 1) := by decide +kernel
theorem dX7_handsWithOneCard_26 : decode cX7_handsWithOneCard 26 = .ok (.getfield 9, 3) := by decide +kernel
theorem dX7_handsWithOneCard_29 : decode cX7_handsWithOneCard 29 = .ok (.getfield 19, 3) := by decide +kernel
theorem dX7_handsWithOneCard_32 : decode cX7_handsWithOneCard 32 = .ok (.idiv, 1) := by decide +kernel
theorem dX7_handsWithOneCard_33 : decode cX7_handsWithOneCard 33 = .ok (.goto 4, 3) := by decide +kernel
theorem dX7_handsWithOneCard_37 : decode cX7_handsWithOneCard 37 = .ok (.ireturn, 1) := by decide +kernel
theorem dX7_untouched_0 : decode cX7_untouched 0 = .ok (.iconst 0, 1) := by decide +kernel
theorem dX7_untouched_1 : decode cX7_untouched 1 = .ok (.istore_n 1, 1) := by decide +kernel
theorem dX7_untouched_2 : decode cX7_untouched 2 = .ok (.iconst 0, 1) := by decide +kernel
theorem dX7_untouched_3 : decode cX7_untouched 3 = .ok (.istore_n 2, 1) := by decide +kernel
theorem dX7_untouched_4 : decode cX7_untouched 4 = .ok (.iload_n 2, 1) := by decide +kernel
theorem dX7_untouched_5 : decode cX7_untouched 5 = .ok (.aload_n 0, 1) := by decide +kernel
theorem dX7_untouched_6 : decode cX7_untouched 6 = .ok (.getfield 9, 3) := by decide +kernel
theorem dX7_untouched_9 : decode cX7_untouched 9 = .ok (.getfield 19, 3) := by decide +kernel
theorem dX7_untouched_12 : decode cX7_untouched 12 = .ok (.if_icmp .ge 67, 3) := by decide +kernel
theorem dX7_untouched_15 : decode cX7_untouched 15 = .ok (.iconst 0, 1) := by decide +kernel
theorem dX7_untouched_16 : decode cX7_untouched 16 = .ok (.istore_n 3, 1) := by decide +kernel
theorem dX7_untouched_17 : decode cX7_untouched 17 = .ok (.iconst 0, 1) := by decide +kernel
theorem dX7_untouched_18 : decode cX7_untouched 18 = .ok (.istore 4, 2) := by decide +kernel
theorem dX7_untouched_20 : decode cX7_untouched 20 = .ok (.iload 4, 2) := by decide +kernel
theorem dX7_untouched_22 : decode cX7_untouched 22 = .ok (.aload_n 0, 1) := by decide +kernel
theorem dX7_untouched_23 : decode cX7_untouched 23 = .ok (.getfield 9, 3) := by decide +kernel
theorem dX7_untouched_26 : decode cX7_untouched 26 = .ok (.getfield 59, 3) := by decide +kernel
theorem dX7_untouched_29 : decode cX7_untouched 29 = .ok (.if_icmp .ge 29, 3) := by decide +kernel
theorem dX7_untouched_58 : decode cX7_untouched 58 = .ok (.iload_n 1, 1) := by decide +kernel
theorem dX7_untouched_59 : decode cX7_untouched 59 = .ok (.iload_n 3, 1) := by decide +kernel
theorem dX7_untouched_60 : decode cX7_untouched 60 = .ok (.ifCond .eq 7, 3) := by decide +kernel
theorem dX7_untouched_67 : decode cX7_untouched 67 = .ok (.aload_n 0, 1) := by decide +kernel
theorem dX7_untouched_68 : decode cX7_untouched 68 = .ok (.invokevirtual 48, 3) := by decide +kernel
theorem dX7_untouched_71 : decode cX7_untouched 71 = .ok (.iadd, 1) := by decide +kernel
theorem dX7_untouched_72 : decode cX7_untouched 72 = .ok (.istore_n 1, 1) := by decide +kernel
theorem dX7_untouched_73 : decode cX7_untouched 73 = .ok (.iinc 2 1, 3) := by decide +kernel
theorem dX7_untouched_76 : decode cX7_untouched 76 = .ok (.goto (-72), 3) := by decide +kernel
theorem dX7_untouched_79 : decode cX7_untouched 79 = .ok (.iload_n 1, 1) := by decide +kernel
theorem dX7_untouched_80 : decode cX7_untouched 80 = .ok (.ireturn, 1) := by decide +kernel
end
section
/-- the cells of a new object of the class that its first call may reach -/
def wX (q : Nat → Nat) (k : Nat → ClassId) (g : Nat → Nat → Int32) (gl : Nat → Nat → Int64) : va_W :=
  [((q 0), .inr (11, [.ref (q 1), .int 0, .ref (q 2), .ref (q 30), .ref (q 6), .ref (q 11), .ref (q 15), .ref (q 16), .ref (q 19), .ref (q 31), .ref (q 21), .ref (q 22), .ref (q 24), .ref (q 25)])),
   ((q 1), .inl ((k 1), 2000, .inl (g 1))),
   ((q 2), .inr (5, [.int 4, .int 4, .int (-1), .int 0, .ref (q 32), .ref (q 33), .ref (q 34), .ref (q 35), .ref (q 36), .int 0, .int 16, .int 4, .ref (q 3), .ref (q 4), .ref (q 5), .int 1820])),
   ((q 3), .inl ((k 3), 4, .inl (g 3))),
   ((q 4), .inl ((k 4), 16, .inl (g 4))),
   ((q 5), .inl ((k 5), 1820, .inl (g 5))),
   ((q 6), .inr (8, [.ref (q 7), .ref (q 2), .ref (q 37), .int 0, .int 0, .int 0, .int 0, .int 0, .int (-1), .int 0, .int 0])),
   ((q 7), .inr (9, [.ref (q 8), .ref (q 9), .ref (q 10), .ref (q 38), .int 0])),
   ((q 8), .inl ((k 8), 402, .inl (g 8))),
   ((q 9), .inl ((k 9), 402, .inl (g 9))),
   ((q 10), .inl ((k 10), 402, .inr (.inl (gl 10)))),
   ((q 11), .inr (3, [.ref (q 2), .ref (q 30), .int 0, .ref (q 12), .ref (q 13), .int 0, .int (-2), .int 0, .ref (q 14), .ref (q 50), .ref (q 51), .ref (q 52), .ref (q 53), .ref (q 54), .ref (q 55), .ref (q 56), .ref (q 57), .int 0])),
   ((q 12), .inl ((k 12), 4, .inl (g 12))),
   ((q 13), .inl ((k 13), 4, .inl (g 13))),
   ((q 14), .inl ((k 14), 16, .inl (g 14))),
   ((q 15), .inr (3, [.ref (q 2), .ref (q 30), .int 0, .ref (q 60), .ref (q 61), .int 0, .int (-2), .int 0, .ref (q 62), .ref (q 63), .ref (q 64), .ref (q 65), .ref (q 66), .ref (q 67), .ref (q 68), .ref (q 69), .ref (q 70), .int 0])),
   ((q 16), .inl ((k 16), 2, .inr (.inr (.inr (.inr (fun j => some (q (17 + j)))))))),
   ((q 17), .inr (3, [.ref (q 2), .ref (q 30), .int 0, .ref (q 72), .ref (q 73), .int 0, .int (-2), .int 0, .ref (q 74), .ref (q 75), .ref (q 76), .ref (q 77), .ref (q 78), .ref (q 79), .ref (q 80), .ref (q 81), .ref (q 82), .int 0])),
   ((q 18), .inr (3, [.ref (q 2), .ref (q 30), .int 0, .ref (q 84), .ref (q 85), .int 0, .int (-2), .int 0, .ref (q 86), .ref (q 87), .ref (q 88), .ref (q 89), .ref (q 90), .ref (q 91), .ref (q 92), .ref (q 93), .ref (q 94), .int 0])),
   ((q 19), .inr (6, [.ref (q 2), .ref (q 3), .ref (q 4), .ref (q 39), .int 0, .int 0, .int 0, .int 0, .ref (q 40), .int 0, .int 1, .ref (q 20), .ref (q 41), .int (-1)])),
   ((q 20), .inl ((k 20), 4, .inl (g 20))),
   ((q 21), .inr (10, [.ref (q 31), .ref (q 19), .ref (q 42), .int 0, .null, .int 0, .int 0])),
   ((q 22), .inr (2, [.ref (q 15), .ref (q 21), .ref (q 23)])),
   ((q 23), .inl ((k 23), 1024, .inl (g 23))),
   ((q 24), .inr (0, [.ref (q 43), .ref (q 44), .int 0])),
   ((q 25), .inr (7, [.ref (q 2), .ref (q 30)]))]
def tyX (k : Nat → ClassId) : List (ClassId × FieldType) := [(k 1, .byte), (k 3, .int), (k 4, .int), (k 5, .int), (k 8, .int), (k 9, .int), (k 10, .long), (k 12, .int), (k 13, .int), (k 14, .int), (k 16, .object "SignalTable$Game"), (k 20, .int), (k 23, .int)]
/-- the same of the reference -/
def wM (q : Nat → Nat) (k : Nat → ClassId) (g : Nat → Nat → Int32) (gl : Nat → Nat → Int64) : va_W :=
  [((q 0), .inr (12, [.int 0, .ref (q 1), .int 0, .ref (q 20), .int 0, .ref (q 2), .ref (q 3), .ref (q 4), .ref (q 5), .ref (q 21), .int 0, .int 0, .int 0, .int 0, .int 0, .int 0, .int 0, .int (-1), .int 0, .int 0, .int 0, .ref (q 22), .ref (q 6), .ref (q 7), .ref (q 8), .ref (q 9), .ref (q 23), .ref (q 24), .ref (q 25), .ref (q 26), .int 0, .ref (q 27), .ref (q 28), .ref (q 29), .ref (q 30), .ref (q 31), .ref (q 32), .int 0, .ref (q 33), .ref (q 34), .ref (q 35), .int 0, .ref (q 13), .ref (q 36), .int 0, .int 0, .ref (q 10), .int 0, .int 0, .ref (q 37), .ref (q 38), .ref (q 11), .ref (q 39), .int 0, .int 0, .int 0, .ref (q 40), .ref (q 41), .ref (q 42), .int 0, .int 0, .int 0, .ref (q 43), .ref (q 44), .ref (q 45), .ref (q 46), .ref (q 47), .ref (q 48), .ref (q 49), .int 0, .ref (q 50), .int 0, .ref (q 51), .ref (q 52), .ref (q 53), .ref (q 54), .ref (q 55), .ref (q 56), .int 0, .int 0, .int 0, .ref (q 57), .int 0, .int 0, .ref (q 58), .ref (q 59), .int 0, .ref (q 60), .ref (q 61), .ref (q 12), .ref (q 62), .ref (q 63), .ref (q 64), .ref (q 65), .ref (q 66)])),
   ((q 1), .inl ((k 1), 2000, .inl (g 1))),
   ((q 2), .inl ((k 2), 403, .inl (g 2))),
   ((q 3), .inl ((k 3), 403, .inl (g 3))),
   ((q 4), .inl ((k 4), 403, .inl (g 4))),
   ((q 5), .inl ((k 5), 403, .inr (.inl (gl 5)))),
   ((q 6), .inl ((k 6), 2, .inl (fun j => if j = 0 then 4 else 0))),
   ((q 7), .inl ((k 7), 2, .inl (fun j => if j = 0 then 4 else 0))),
   ((q 8), .inl ((k 8), 2, .inl (fun j => if j = 0 then -1 else 0))),
   ((q 9), .inl ((k 9), 2, .inl (fun _ => 0))),
   ((q 10), .inl ((k 10), 4, .inl (g 10))),
   ((q 11), .inl ((k 11), 16, .inl (g 11))),
   ((q 12), .inl ((k 12), 2, .inl (fun _ => 0))),
   ((q 13), .inl ((k 13), 14, .inl (g 13)))]
def tyM (k : Nat → ClassId) : List (ClassId × FieldType) := [(k 1, .byte), (k 2, .int), (k 3, .int), (k 4, .int), (k 5, .long), (k 6, .int), (k 7, .int), (k 8, .int), (k 9, .int), (k 10, .int), (k 11, .int), (k 12, .boolean), (k 13, .int)]
def sp_count (x : Int32) : Int32 := if x = 0 ∨ x = 1 ∨ x = 2 then 4 else if x = 3 ∨ x = 5 then -2 else if x = 4 ∨ x = 6 ∨ x = 7 ∨ x = 8 then 0 else -1
theorem z_if0 {P : Prop} {i : Decidable P} (h : (if P then (1 : Int32) else 0) = 0) : ¬ P := fun q => by rw [if_pos q] at h; exact absurd h (by decide)
theorem z_ifn {P : Prop} {i : Decidable P} (h : ¬ (if P then (1 : Int32) else 0) = 0) : P := by
  by_cases q : P
  · exact q
  · rw [if_neg q] at h; exact absurd rfl h
theorem ti_m2 : ((-2) : Int32).toInt = -2 := by decide
theorem ti_m1 : ((-1) : Int32).toInt = -1 := by decide
theorem ti_0 : (0 : Int32).toInt = 0 := by decide
theorem ti_1 : (1 : Int32).toInt = 1 := by decide
theorem ti_2 : (2 : Int32).toInt = 2 := by decide
theorem ti_3 : (3 : Int32).toInt = 3 := by decide
theorem ti_4 : (4 : Int32).toInt = 4 := by decide
theorem ti_5 : (5 : Int32).toInt = 5 := by decide
theorem ti_6 : (6 : Int32).toInt = 6 := by decide
theorem ti_7 : (7 : Int32).toInt = 7 := by decide
theorem ti_8 : (8 : Int32).toInt = 8 := by decide
theorem ti_10 : (10 : Int32).toInt = 10 := by decide
theorem ti_20 : (20 : Int32).toInt = 20 := by decide
theorem z_in {i : Int32} {n : Nat} (h : ¬ (i < 0 ∨ n ≤ i.toNatClampNeg)) : vp_in i n := h
end
section
set_option maxHeartbeats 4000000 in
set_option maxRecDepth 100000 in
theorem rX_X3_legal {l : Launch} {D : va_G} {q : Nat → Nat} {k : Nat → ClassId} {g : Nat → Nat → Int32} {gl : Nat → Nat → Int64} : Rd l yX3_legal cX3_legal 3 (some .int) 0 D (wX q k g gl) (tyX k) [.ref (q 11)] (.int 0) := by
  refine Rd.of (by decide) (Nat.le_of_ble_eq_true rfl) ?_
  intro p e s m below meth c ls hx hb hr hml hown hts hlocks hP hK hl
  have hown : s.vm.findClass "SignalTable$Game" = some m.cls := hown
  have hl : lv_has ls 3 [(0, .ref (q 11))] := hl
  refine lv_aload_n hx hb dX3_legal_0 rfl (lv_at hl 0 rfl) ?_
  refine va_get (D := D) (ci := 3) (v := .int (-2)) (C := RX3) (T := TX3) (N := 18) hx hb hts inX3 hown hK hP 11 rfl rfl 6 (by decide) (hts _ kw_433) (fun _ h9 => h9) rfl dX3_legal_1 ?_
  refine lv_if_ge (tgt := 9) hx hb dX3_legal_4 (by decide) (fun h => absurd h (by decide)) (fun _ => ?_)
  refine lv_iconst (v := 0) hx hb dX3_legal_7 (by decide) ?_
  exact rd_i hx hb hr hlocks (rfl) dX3_legal_8
set_option maxHeartbeats 4000000 in
set_option maxRecDepth 100000 in
theorem rX_X3_isOver {l : Launch} {D : va_G} {q : Nat → Nat} {k : Nat → ClassId} {g : Nat → Nat → Int32} {gl : Nat → Nat → Int64} : Rd l yX3_isOver cX3_isOver 1 (some .boolean) 0 D (wX q k g gl) (tyX k) [.ref (q 11)] (.int 0) := by
  refine Rd.of (by decide) (Nat.le_of_ble_eq_true rfl) ?_
  intro p e s m below meth c ls hx hb hr hml hown hts hlocks hP hK hl
  have hown : s.vm.findClass "SignalTable$Game" = some m.cls := hown
  have hl : lv_has ls 1 [(0, .ref (q 11))] := hl
  refine lv_aload_n hx hb dX3_isOver_0 rfl (lv_at hl 0 rfl) ?_
  refine va_get (D := D) (ci := 3) (v := .int 0) (C := RX3) (T := TX3) (N := 18) hx hb hts inX3 hown hK hP 11 rfl rfl 2 (by decide) (hts _ kw_422) (fun _ h9 => h9) rfl dX3_isOver_1 ?_
  refine lv_if_eq (tgt := 25) hx hb dX3_isOver_4 (by decide) (fun _ => ?_) (fun h => absurd (by decide) h)
  refine lv_iconst (v := 0) hx hb dX3_isOver_25 (by decide) ?_
  exact rd_z hx hb hr hlocks rfl (rfl) dX3_isOver_26
set_option maxHeartbeats 4000000 in
set_option maxRecDepth 100000 in
theorem rX_X3_wonBy {l : Launch} {D : va_G} {q : Nat → Nat} {k : Nat → ClassId} {g : Nat → Nat → Int32} {gl : Nat → Nat → Int64} (p1 : Int32) : Rd l yX3_wonBy cX3_wonBy 4 (some .int) 0 D (wX q k g gl) (tyX k) [.ref (q 11), .int p1] (.int 0) := by
  refine Rd.of (by decide) (Nat.le_of_ble_eq_true rfl) ?_
  intro p e s m below meth c ls hx hb hr hml hown hts hlocks hP hK hl
  have hown : s.vm.findClass "SignalTable$Game" = some m.cls := hown
  have hl : lv_has ls 4 [(0, .ref (q 11)), (1, .int p1)] := hl
  refine lv_iconst (v := 0) hx hb dX3_wonBy_0 (by decide) ?_
  refine lv_istore_n (lv' := [(2, .int 0), (0, .ref (q 11)), (1, .int p1)]) hx hb dX3_wonBy_1 rfl hl (by decide) rfl (fun ls hl => ?_)
  refine lv_iconst (v := 0) hx hb dX3_wonBy_2 (by decide) ?_
  refine lv_istore_n (lv' := [(3, .int 0), (2, .int 0), (0, .ref (q 11)), (1, .int p1)]) hx hb dX3_wonBy_3 rfl hl (by decide) rfl (fun ls hl => ?_)
  refine lv_iload_n hx hb dX3_wonBy_4 rfl (lv_at hl 0 rfl) ?_
  refine lv_aload_n hx hb dX3_wonBy_5 rfl (lv_at hl 2 rfl) ?_
  refine va_get (D := D) (ci := 3) (v := .int 0) (C := RX3) (T := TX3) (N := 18) hx hb hts inX3 hown hK hP 11 rfl rfl 7 (by decide) (hts _ kw_438) (fun _ h9 => h9) rfl dX3_wonBy_6 ?_
  refine lv_iconst (v := 4) hx hb dX3_wonBy_9 (by decide) ?_
  refine lv_idiv hx hb dX3_wonBy_10 (by decide) ?_
  refine z_i (v := 0) (by decide) ?_
  refine lv_icmp_ge (tgt := 40) hx hb dX3_wonBy_11 (by decide) (fun _ => ?_) (fun h => absurd (by decide) h)
  refine lv_iload_n hx hb dX3_wonBy_40 rfl (lv_at hl 1 rfl) ?_
  exact rd_i hx hb hr hlocks (rfl) dX3_wonBy_41
set_option maxHeartbeats 4000000 in
set_option maxRecDepth 100000 in
theorem rX_X7_handsWithOneCard {l : Launch} {D : va_G} {q : Nat → Nat} {k : Nat → ClassId} {g : Nat → Nat → Int32} {gl : Nat → Nat → Int64} : Rd l yX7_handsWithOneCard cX7_handsWithOneCard 1 (some .int) 0 D (wX q k g gl) (tyX k) [.ref (q 25)] (.int 455) := by
  refine Rd.of (by decide) (Nat.le_of_ble_eq_true rfl) ?_
  intro p e s m below meth c ls hx hb hr hml hown hts hlocks hP hK hl
  have hown : s.vm.findClass "SignalTable$Openings" = some m.cls := hown
  have hl : lv_has ls 1 [(0, .ref (q 25))] := hl
  refine lv_aload_n hx hb dX7_handsWithOneCard_0 rfl (lv_at hl 0 rfl) ?_
  refine va_get (D := D) (ci := 7) (v := .ref (q 2)) (C := RX7) (T := TX7) (N := 2) hx hb hts inX7 hown hK hP 25 rfl rfl 0 (by decide) (hts _ kw_684) (fun _ h9 => h9) rfl dX7_handsWithOneCard_1 ?_
  refine va_get (D := D) (ci := 5) (v := .int 16) (C := RX5) (T := TX5) (N := 16) hx hb hts inX5 hown hK hP 2 rfl rfl 10 (by decide) (hts _ kw_220) (fun _ h9 => h9) rfl dX7_handsWithOneCard_4 ?_
  refine lv_if_le (tgt := 36) hx hb dX7_handsWithOneCard_7 (by decide) (fun h => absurd h (by decide)) (fun _ => ?_)
  refine lv_aload_n hx hb dX7_handsWithOneCard_10 rfl (lv_at hl 0 rfl) ?_
  refine va_get (D := D) (ci := 7) (v := .ref (q 2)) (C := RX7) (T := TX7) (N := 2) hx hb hts inX7 hown hK hP 25 rfl rfl 0 (by decide) (hts _ kw_684) (fun _ h9 => h9) rfl dX7_handsWithOneCard_11 ?_
  refine va_get (D := D) (ci := 5) (v := .int 1820) (C := RX5) (T := TX5) (N := 16) hx hb hts inX5 hown hK hP 2 rfl rfl 15 (by decide) (hts _ kw_243) (fun _ h9 => h9) rfl dX7_handsWithOneCard_14 ?_
  refine lv_aload_n hx hb dX7_handsWithOneCard_17 rfl (lv_at hl 0 rfl) ?_
  refine va_get (D := D) (ci := 7) (v := .ref (q 2)) (C := RX7) (T := TX7) (N := 2) hx hb hts inX7 hown hK hP 25 rfl rfl 0 (by decide) (hts _ kw_684) (fun _ h9 => h9) rfl dX7_handsWithOneCard_18 ?_
  refine va_get (D := D) (ci := 5) (v := .int 4) (C := RX5) (T := TX5) (N := 16) hx hb hts inX5 hown hK hP 2 rfl rfl 11 (by decide) (hts _ kw_226) (fun _ h9 => h9) rfl dX7_handsWithOneCard_21 ?_
  refine lv_imul hx hb dX7_handsWithOneCard_24 ?_
  refine z_i (v := 7280) (by decide) ?_
  refine lv_aload_n hx hb dX7_handsWithOneCard_25 rfl (lv_at hl 0 rfl) ?_
  refine va_get (D := D) (ci := 7) (v := .ref (q 2)) (C := RX7) (T := TX7) (N := 2) hx hb hts inX7 hown hK hP 25 rfl rfl 0 (by decide) (hts _ kw_684) (fun _ h9 => h9) rfl dX7_handsWithOneCard_26 ?_
  refine va_get (D := D) (ci := 5) (v := .int 16) (C := RX5) (T := TX5) (N := 16) hx hb hts inX5 hown hK hP 2 rfl rfl 10 (by decide) (hts _ kw_220) (fun _ h9 => h9) rfl dX7_handsWithOneCard_29 ?_
  refine lv_idiv hx hb dX7_handsWithOneCard_32 (by decide) ?_
  refine z_i (v := 455) (by decide) ?_
  refine lv_goto (tgt := 37) hx hb dX7_handsWithOneCard_33 (by decide) ?_
  exact rd_i hx hb hr hlocks (rfl) dX7_handsWithOneCard_37
set_option maxHeartbeats 4000000 in
set_option maxRecDepth 100000 in
theorem rX_X7_untouched {l : Launch} {D : va_G} {q : Nat → Nat} {k : Nat → ClassId} {g : Nat → Nat → Int32} {gl : Nat → Nat → Int64} : Rd l yX7_untouched cX7_untouched 5 (some .int) 1 D (wX q k g gl) (tyX k) [.ref (q 25)] (.int 7280) := by
  refine Rd.of (by decide) (Nat.le_of_ble_eq_true rfl) ?_
  intro p e s m below meth c ls hx hb hr hml hown hts hlocks hP hK hl
  have hown : s.vm.findClass "SignalTable$Openings" = some m.cls := hown
  have hl : lv_has ls 5 [(0, .ref (q 25))] := hl
  refine lv_iconst (v := 0) hx hb dX7_untouched_0 (by decide) ?_
  refine lv_istore_n (lv' := [(1, .int 0), (0, .ref (q 25))]) hx hb dX7_untouched_1 rfl hl (by decide) rfl (fun ls hl => ?_)
  refine lv_iconst (v := 0) hx hb dX7_untouched_2 (by decide) ?_
  refine lv_istore_n (lv' := [(2, .int 0), (1, .int 0), (0, .ref (q 25))]) hx hb dX7_untouched_3 rfl hl (by decide) rfl (fun ls hl => ?_)
  refine lv_iload_n hx hb dX7_untouched_4 rfl (lv_at hl 0 rfl) ?_
  refine lv_aload_n hx hb dX7_untouched_5 rfl (lv_at hl 2 rfl) ?_
  refine va_get (D := D) (ci := 7) (v := .ref (q 2)) (C := RX7) (T := TX7) (N := 2) hx hb hts inX7 hown hK hP 25 rfl rfl 0 (by decide) (hts _ kw_684) (fun _ h9 => h9) rfl dX7_untouched_6 ?_
  refine va_get (D := D) (ci := 5) (v := .int 16) (C := RX5) (T := TX5) (N := 16) hx hb hts inX5 hown hK hP 2 rfl rfl 10 (by decide) (hts _ kw_220) (fun _ h9 => h9) rfl dX7_untouched_9 ?_
  refine lv_icmp_ge (tgt := 79) hx hb dX7_untouched_12 (by decide) (fun h => absurd h (by decide)) (fun _ => ?_)
  refine lv_iconst (v := 0) hx hb dX7_untouched_15 (by decide) ?_
  refine lv_istore_n (lv' := [(3, .int 0), (2, .int 0), (1, .int 0), (0, .ref (q 25))]) hx hb dX7_untouched_16 rfl hl (by decide) rfl (fun ls hl => ?_)
  refine lv_iconst (v := 0) hx hb dX7_untouched_17 (by decide) ?_
  refine lv_istore (lv' := [(4, .int 0), (3, .int 0), (2, .int 0), (1, .int 0), (0, .ref (q 25))]) hx hb dX7_untouched_18 hl (by decide) rfl (fun ls hl => ?_)
  refine lv_iload hx hb dX7_untouched_20 (lv_at hl 0 rfl) ?_
  refine lv_aload_n hx hb dX7_untouched_22 rfl (lv_at hl 4 rfl) ?_
  refine va_get (D := D) (ci := 7) (v := .ref (q 2)) (C := RX7) (T := TX7) (N := 2) hx hb hts inX7 hown hK hP 25 rfl rfl 0 (by decide) (hts _ kw_684) (fun _ h9 => h9) rfl dX7_untouched_23 ?_
  refine va_get (D := D) (ci := 5) (v := .int 0) (C := RX5) (T := TX5) (N := 16) hx hb hts inX5 hown hK hP 2 rfl rfl 3 (by decide) (hts _ kw_203) (fun _ h9 => h9) rfl dX7_untouched_26 ?_
  refine lv_icmp_ge (tgt := 58) hx hb dX7_untouched_29 (by decide) (fun _ => ?_) (fun h => absurd (by decide) h)
  refine lv_iload_n hx hb dX7_untouched_58 rfl (lv_at hl 3 rfl) ?_
  refine lv_iload_n hx hb dX7_untouched_59 rfl (lv_at hl 1 rfl) ?_
  refine lv_if_eq (tgt := 67) hx hb dX7_untouched_60 (by decide) (fun _ => ?_) (fun h => absurd (by decide) h)
  refine lv_aload_n hx hb dX7_untouched_67 rfl (lv_at hl 4 rfl) ?_
  refine rd_V (As := []) (rest := [.int 0]) (d := 0) caV_SignalTable_Openings_48 hx hb hml hown hts hP hK (rX_X7_handsWithOneCard) (ci := 7) (q0 := 25) rfl rfl (by decide) rfl hl.1 (Nat.le_of_ble_eq_true rfl) (by decide) dX7_untouched_68 rfl ?_
  refine lv_iadd hx hb dX7_untouched_71 ?_
  refine z_i (v := 455) (by decide) ?_
  refine lv_istore_n (lv' := [(1, .int 455), (4, .int 0), (3, .int 0), (2, .int 0), (0, .ref (q 25))]) hx hb dX7_untouched_72 rfl hl (by decide) rfl (fun ls hl => ?_)
  refine lv_iinc (v := 1) (lv' := [(2, .int 1), (1, .int 455), (4, .int 0), (3, .int 0), (0, .ref (q 25))]) hx hb dX7_untouched_73 hl (k := 3) rfl (by decide) (by decide) rfl (fun ls hl => ?_)
  refine lv_goto (tgt := 4) hx hb dX7_untouched_76 (by decide) ?_
  refine lv_iload_n hx hb dX7_untouched_4 rfl (lv_at hl 0 rfl) ?_
  refine lv_aload_n hx hb dX7_untouched_5 rfl (lv_at hl 4 rfl) ?_
  refine va_get (D := D) (ci := 7) (v := .ref (q 2)) (C := RX7) (T := TX7) (N := 2) hx hb hts inX7 hown hK hP 25 rfl rfl 0 (by decide) (hts _ kw_684) (fun _ h9 => h9) rfl dX7_untouched_6 ?_
  refine va_get (D := D) (ci := 5) (v := .int 16) (C := RX5) (T := TX5) (N := 16) hx hb hts inX5 hown hK hP 2 rfl rfl 10 (by decide) (hts _ kw_220) (fun _ h9 => h9) rfl dX7_untouched_9 ?_
  refine lv_icmp_ge (tgt := 79) hx hb dX7_untouched_12 (by decide) (fun h => absurd h (by decide)) (fun _ => ?_)
  refine lv_iconst (v := 0) hx hb dX7_untouched_15 (by decide) ?_
  refine lv_istore_n (lv' := [(3, .int 0), (2, .int 1), (1, .int 455), (4, .int 0), (0, .ref (q 25))]) hx hb dX7_untouched_16 rfl hl (by decide) rfl (fun ls hl => ?_)
  refine lv_iconst (v := 0) hx hb dX7_untouched_17 (by decide) ?_
  refine lv_istore (lv' := [(4, .int 0), (3, .int 0), (2, .int 1), (1, .int 455), (0, .ref (q 25))]) hx hb dX7_untouched_18 hl (by decide) rfl (fun ls hl => ?_)
  refine lv_iload hx hb dX7_untouched_20 (lv_at hl 0 rfl) ?_
  refine lv_aload_n hx hb dX7_untouched_22 rfl (lv_at hl 4 rfl) ?_
  refine va_get (D := D) (ci := 7) (v := .ref (q 2)) (C := RX7) (T := TX7) (N := 2) hx hb hts inX7 hown hK hP 25 rfl rfl 0 (by decide) (hts _ kw_684) (fun _ h9 => h9) rfl dX7_untouched_23 ?_
  refine va_get (D := D) (ci := 5) (v := .int 0) (C := RX5) (T := TX5) (N := 16) hx hb hts inX5 hown hK hP 2 rfl rfl 3 (by decide) (hts _ kw_203) (fun _ h9 => h9) rfl dX7_untouched_26 ?_
  refine lv_icmp_ge (tgt := 58) hx hb dX7_untouched_29 (by decide) (fun _ => ?_) (fun h => absurd (by decide) h)
  refine lv_iload_n hx hb dX7_untouched_58 rfl (lv_at hl 3 rfl) ?_
  refine lv_iload_n hx hb dX7_untouched_59 rfl (lv_at hl 1 rfl) ?_
  refine lv_if_eq (tgt := 67) hx hb dX7_untouched_60 (by decide) (fun _ => ?_) (fun h => absurd (by decide) h)
  refine lv_aload_n hx hb dX7_untouched_67 rfl (lv_at hl 4 rfl) ?_
  refine rd_V (As := []) (rest := [.int 455]) (d := 0) caV_SignalTable_Openings_48 hx hb hml hown hts hP hK (rX_X7_handsWithOneCard) (ci := 7) (q0 := 25) rfl rfl (by decide) rfl hl.1 (Nat.le_of_ble_eq_true rfl) (by decide) dX7_untouched_68 rfl ?_
  refine lv_iadd hx hb dX7_untouched_71 ?_
  refine z_i (v := 910) (by decide) ?_
  refine lv_istore_n (lv' := [(1, .int 910), (4, .int 0), (3, .int 0), (2, .int 1), (0, .ref (q 25))]) hx hb dX7_untouched_72 rfl hl (by decide) rfl (fun ls hl => ?_)
  refine lv_iinc (v := 2) (lv' := [(2, .int 2), (1, .int 910), (4, .int 0), (3, .int 0), (0, .ref (q 25))]) hx hb dX7_untouched_73 hl (k := 3) rfl (by decide) (by decide) rfl (fun ls hl => ?_)
  refine lv_goto (tgt := 4) hx hb dX7_untouched_76 (by decide) ?_
  refine lv_iload_n hx hb dX7_untouched_4 rfl (lv_at hl 0 rfl) ?_
  refine lv_aload_n hx hb dX7_untouched_5 rfl (lv_at hl 4 rfl) ?_
  refine va_get (D := D) (ci := 7) (v := .ref (q 2)) (C := RX7) (T := TX7) (N := 2) hx hb hts inX7 hown hK hP 25 rfl rfl 0 (by decide) (hts _ kw_684) (fun _ h9 => h9) rfl dX7_untouched_6 ?_
  refine va_get (D := D) (ci := 5) (v := .int 16) (C := RX5) (T := TX5) (N := 16) hx hb hts inX5 hown hK hP 2 rfl rfl 10 (by decide) (hts _ kw_220) (fun _ h9 => h9) rfl dX7_untouched_9 ?_
  refine lv_icmp_ge (tgt := 79) hx hb dX7_untouched_12 (by decide) (fun h => absurd h (by decide)) (fun _ => ?_)
  refine lv_iconst (v := 0) hx hb dX7_untouched_15 (by decide) ?_
  refine lv_istore_n (lv' := [(3, .int 0), (2, .int 2), (1, .int 910), (4, .int 0), (0, .ref (q 25))]) hx hb dX7_untouched_16 rfl hl (by decide) rfl (fun ls hl => ?_)
  refine lv_iconst (v := 0) hx hb dX7_untouched_17 (by decide) ?_
  refine lv_istore (lv' := [(4, .int 0), (3, .int 0), (2, .int 2), (1, .int 910), (0, .ref (q 25))]) hx hb dX7_untouched_18 hl (by decide) rfl (fun ls hl => ?_)
  refine lv_iload hx hb dX7_untouched_20 (lv_at hl 0 rfl) ?_
  refine lv_aload_n hx hb dX7_untouched_22 rfl (lv_at hl 4 rfl) ?_
  refine va_get (D := D) (ci := 7) (v := .ref (q 2)) (C := RX7) (T := TX7) (N := 2) hx hb hts inX7 hown hK hP 25 rfl rfl 0 (by decide) (hts _ kw_684) (fun _ h9 => h9) rfl dX7_untouched_23 ?_
  refine va_get (D := D) (ci := 5) (v := .int 0) (C := RX5) (T := TX5) (N := 16) hx hb hts inX5 hown hK hP 2 rfl rfl 3 (by decide) (hts _ kw_203) (fun _ h9 => h9) rfl dX7_untouched_26 ?_
  refine lv_icmp_ge (tgt := 58) hx hb dX7_untouched_29 (by decide) (fun _ => ?_) (fun h => absurd (by decide) h)
  refine lv_iload_n hx hb dX7_untouched_58 rfl (lv_at hl 3 rfl) ?_
  refine lv_iload_n hx hb dX7_untouched_59 rfl (lv_at hl 1 rfl) ?_
  refine lv_if_eq (tgt := 67) hx hb dX7_untouched_60 (by decide) (fun _ => ?_) (fun h => absurd (by decide) h)
  refine lv_aload_n hx hb dX7_untouched_67 rfl (lv_at hl 4 rfl) ?_
  refine rd_V (As := []) (rest := [.int 910]) (d := 0) caV_SignalTable_Openings_48 hx hb hml hown hts hP hK (rX_X7_handsWithOneCard) (ci := 7) (q0 := 25) rfl rfl (by decide) rfl hl.1 (Nat.le_of_ble_eq_true rfl) (by decide) dX7_untouched_68 rfl ?_
  refine lv_iadd hx hb dX7_untouched_71 ?_
  refine z_i (v := 1365) (by decide) ?_
  refine lv_istore_n (lv' := [(1, .int 1365), (4, .int 0), (3, .int 0), (2, .int 2), (0, .ref (q 25))]) hx hb dX7_untouched_72 rfl hl (by decide) rfl (fun ls hl => ?_)
  refine lv_iinc (v := 3) (lv' := [(2, .int 3), (1, .int 1365), (4, .int 0), (3, .int 0), (0, .ref (q 25))]) hx hb dX7_untouched_73 hl (k := 3) rfl (by decide) (by decide) rfl (fun ls hl => ?_)
  refine lv_goto (tgt := 4) hx hb dX7_untouched_76 (by decide) ?_
  refine lv_iload_n hx hb dX7_untouched_4 rfl (lv_at hl 0 rfl) ?_
  refine lv_aload_n hx hb dX7_untouched_5 rfl (lv_at hl 4 rfl) ?_
  refine va_get (D := D) (ci := 7) (v := .ref (q 2)) (C := RX7) (T := TX7) (N := 2) hx hb hts inX7 hown hK hP 25 rfl rfl 0 (by decide) (hts _ kw_684) (fun _ h9 => h9) rfl dX7_untouched_6 ?_
  refine va_get (D := D) (ci := 5) (v := .int 16) (C := RX5) (T := TX5) (N := 16) hx hb hts inX5 hown hK hP 2 rfl rfl 10 (by decide) (hts _ kw_220) (fun _ h9 => h9) rfl dX7_untouched_9 ?_
  refine lv_icmp_ge (tgt := 79) hx hb dX7_untouched_12 (by decide) (fun h => absurd h (by decide)) (fun _ => ?_)
  refine lv_iconst (v := 0) hx hb dX7_untouched_15 (by decide) ?_
  refine lv_istore_n (lv' := [(3, .int 0), (2, .int 3), (1, .int 1365), (4, .int 0), (0, .ref (q 25))]) hx hb dX7_untouched_16 rfl hl (by decide) rfl (fun ls hl => ?_)
  refine lv_iconst (v := 0) hx hb dX7_untouched_17 (by decide) ?_
  refine lv_istore (lv' := [(4, .int 0), (3, .int 0), (2, .int 3), (1, .int 1365), (0, .ref (q 25))]) hx hb dX7_untouched_18 hl (by decide) rfl (fun ls hl => ?_)
  refine lv_iload hx hb dX7_untouched_20 (lv_at hl 0 rfl) ?_
  refine lv_aload_n hx hb dX7_untouched_22 rfl (lv_at hl 4 rfl) ?_
  refine va_get (D := D) (ci := 7) (v := .ref (q 2)) (C := RX7) (T := TX7) (N := 2) hx hb hts inX7 hown hK hP 25 rfl rfl 0 (by decide) (hts _ kw_684) (fun _ h9 => h9) rfl dX7_untouched_23 ?_
  refine va_get (D := D) (ci := 5) (v := .int 0) (C := RX5) (T := TX5) (N := 16) hx hb hts inX5 hown hK hP 2 rfl rfl 3 (by decide) (hts _ kw_203) (fun _ h9 => h9) rfl dX7_untouched_26 ?_
  refine lv_icmp_ge (tgt := 58) hx hb dX7_untouched_29 (by decide) (fun _ => ?_) (fun h => absurd (by decide) h)
  refine lv_iload_n hx hb dX7_untouched_58 rfl (lv_at hl 3 rfl) ?_
  refine lv_iload_n hx hb dX7_untouched_59 rfl (lv_at hl 1 rfl) ?_
  refine lv_if_eq (tgt := 67) hx hb dX7_untouched_60 (by decide) (fun _ => ?_) (fun h => absurd (by decide) h)
  refine lv_aload_n hx hb dX7_untouched_67 rfl (lv_at hl 4 rfl) ?_
  refine rd_V (As := []) (rest := [.int 1365]) (d := 0) caV_SignalTable_Openings_48 hx hb hml hown hts hP hK (rX_X7_handsWithOneCard) (ci := 7) (q0 := 25) rfl rfl (by decide) rfl hl.1 (Nat.le_of_ble_eq_true rfl) (by decide) dX7_untouched_68 rfl ?_
  refine lv_iadd hx hb dX7_untouched_71 ?_
  refine z_i (v := 1820) (by decide) ?_
  refine lv_istore_n (lv' := [(1, .int 1820), (4, .int 0), (3, .int 0), (2, .int 3), (0, .ref (q 25))]) hx hb dX7_untouched_72 rfl hl (by decide) rfl (fun ls hl => ?_)
  refine lv_iinc (v := 4) (lv' := [(2, .int 4), (1, .int 1820), (4, .int 0), (3, .int 0), (0, .ref (q 25))]) hx hb dX7_untouched_73 hl (k := 3) rfl (by decide) (by decide) rfl (fun ls hl => ?_)
  refine lv_goto (tgt := 4) hx hb dX7_untouched_76 (by decide) ?_
  refine lv_iload_n hx hb dX7_untouched_4 rfl (lv_at hl 0 rfl) ?_
  refine lv_aload_n hx hb dX7_untouched_5 rfl (lv_at hl 4 rfl) ?_
  refine va_get (D := D) (ci := 7) (v := .ref (q 2)) (C := RX7) (T := TX7) (N := 2) hx hb hts inX7 hown hK hP 25 rfl rfl 0 (by decide) (hts _ kw_684) (fun _ h9 => h9) rfl dX7_untouched_6 ?_
  refine va_get (D := D) (ci := 5) (v := .int 16) (C := RX5) (T := TX5) (N := 16) hx hb hts inX5 hown hK hP 2 rfl rfl 10 (by decide) (hts _ kw_220) (fun _ h9 => h9) rfl dX7_untouched_9 ?_
  refine lv_icmp_ge (tgt := 79) hx hb dX7_untouched_12 (by decide) (fun h => absurd h (by decide)) (fun _ => ?_)
  refine lv_iconst (v := 0) hx hb dX7_untouched_15 (by decide) ?_
  refine lv_istore_n (lv' := [(3, .int 0), (2, .int 4), (1, .int 1820), (4, .int 0), (0, .ref (q 25))]) hx hb dX7_untouched_16 rfl hl (by decide) rfl (fun ls hl => ?_)
  refine lv_iconst (v := 0) hx hb dX7_untouched_17 (by decide) ?_
  refine lv_istore (lv' := [(4, .int 0), (3, .int 0), (2, .int 4), (1, .int 1820), (0, .ref (q 25))]) hx hb dX7_untouched_18 hl (by decide) rfl (fun ls hl => ?_)
  refine lv_iload hx hb dX7_untouched_20 (lv_at hl 0 rfl) ?_
  refine lv_aload_n hx hb dX7_untouched_22 rfl (lv_at hl 4 rfl) ?_
  refine va_get (D := D) (ci := 7) (v := .ref (q 2)) (C := RX7) (T := TX7) (N := 2) hx hb hts inX7 hown hK hP 25 rfl rfl 0 (by decide) (hts _ kw_684) (fun _ h9 => h9) rfl dX7_untouched_23 ?_
  refine va_get (D := D) (ci := 5) (v := .int 0) (C := RX5) (T := TX5) (N := 16) hx hb hts inX5 hown hK hP 2 rfl rfl 3 (by decide) (hts _ kw_203) (fun _ h9 => h9) rfl dX7_untouched_26 ?_
  refine lv_icmp_ge (tgt := 58) hx hb dX7_untouched_29 (by decide) (fun _ => ?_) (fun h => absurd (by decide) h)
  refine lv_iload_n hx hb dX7_untouched_58 rfl (lv_at hl 3 rfl) ?_
  refine lv_iload_n hx hb dX7_untouched_59 rfl (lv_at hl 1 rfl) ?_
  refine lv_if_eq (tgt := 67) hx hb dX7_untouched_60 (by decide) (fun _ => ?_) (fun h => absurd (by decide) h)
  refine lv_aload_n hx hb dX7_untouched_67 rfl (lv_at hl 4 rfl) ?_
  refine rd_V (As := []) (rest := [.int 1820]) (d := 0) caV_SignalTable_Openings_48 hx hb hml hown hts hP hK (rX_X7_handsWithOneCard) (ci := 7) (q0 := 25) rfl rfl (by decide) rfl hl.1 (Nat.le_of_ble_eq_true rfl) (by decide) dX7_untouched_68 rfl ?_
  refine lv_iadd hx hb dX7_untouched_71 ?_
  refine z_i (v := 2275) (by decide) ?_
  refine lv_istore_n (lv' := [(1, .int 2275), (4, .int 0), (3, .int 0), (2, .int 4), (0, .ref (q 25))]) hx hb dX7_untouched_72 rfl hl (by decide) rfl (fun ls hl => ?_)
  refine lv_iinc (v := 5) (lv' := [(2, .int 5), (1, .int 2275), (4, .int 0), (3, .int 0), (0, .ref (q 25))]) hx hb dX7_untouched_73 hl (k := 3) rfl (by decide) (by decide) rfl (fun ls hl => ?_)
  refine lv_goto (tgt := 4) hx hb dX7_untouched_76 (by decide) ?_
  refine lv_iload_n hx hb dX7_untouched_4 rfl (lv_at hl 0 rfl) ?_
  refine lv_aload_n hx hb dX7_untouched_5 rfl (lv_at hl 4 rfl) ?_
  refine va_get (D := D) (ci := 7) (v := .ref (q 2)) (C := RX7) (T := TX7) (N := 2) hx hb hts inX7 hown hK hP 25 rfl rfl 0 (by decide) (hts _ kw_684) (fun _ h9 => h9) rfl dX7_untouched_6 ?_
  refine va_get (D := D) (ci := 5) (v := .int 16) (C := RX5) (T := TX5) (N := 16) hx hb hts inX5 hown hK hP 2 rfl rfl 10 (by decide) (hts _ kw_220) (fun _ h9 => h9) rfl dX7_untouched_9 ?_
  refine lv_icmp_ge (tgt := 79) hx hb dX7_untouched_12 (by decide) (fun h => absurd h (by decide)) (fun _ => ?_)
  refine lv_iconst (v := 0) hx hb dX7_untouched_15 (by decide) ?_
  refine lv_istore_n (lv' := [(3, .int 0), (2, .int 5), (1, .int 2275), (4, .int 0), (0, .ref (q 25))]) hx hb dX7_untouched_16 rfl hl (by decide) rfl (fun ls hl => ?_)
  refine lv_iconst (v := 0) hx hb dX7_untouched_17 (by decide) ?_
  refine lv_istore (lv' := [(4, .int 0), (3, .int 0), (2, .int 5), (1, .int 2275), (0, .ref (q 25))]) hx hb dX7_untouched_18 hl (by decide) rfl (fun ls hl => ?_)
  refine lv_iload hx hb dX7_untouched_20 (lv_at hl 0 rfl) ?_
  refine lv_aload_n hx hb dX7_untouched_22 rfl (lv_at hl 4 rfl) ?_
  refine va_get (D := D) (ci := 7) (v := .ref (q 2)) (C := RX7) (T := TX7) (N := 2) hx hb hts inX7 hown hK hP 25 rfl rfl 0 (by decide) (hts _ kw_684) (fun _ h9 => h9) rfl dX7_untouched_23 ?_
  refine va_get (D := D) (ci := 5) (v := .int 0) (C := RX5) (T := TX5) (N := 16) hx hb hts inX5 hown hK hP 2 rfl rfl 3 (by decide) (hts _ kw_203) (fun _ h9 => h9) rfl dX7_untouched_26 ?_
  refine lv_icmp_ge (tgt := 58) hx hb dX7_untouched_29 (by decide) (fun _ => ?_) (fun h => absurd (by decide) h)
  refine lv_iload_n hx hb dX7_untouched_58 rfl (lv_at hl 3 rfl) ?_
  refine lv_iload_n hx hb dX7_untouched_59 rfl (lv_at hl 1 rfl) ?_
  refine lv_if_eq (tgt := 67) hx hb dX7_untouched_60 (by decide) (fun _ => ?_) (fun h => absurd (by decide) h)
  refine lv_aload_n hx hb dX7_untouched_67 rfl (lv_at hl 4 rfl) ?_
  refine rd_V (As := []) (rest := [.int 2275]) (d := 0) caV_SignalTable_Openings_48 hx hb hml hown hts hP hK (rX_X7_handsWithOneCard) (ci := 7) (q0 := 25) rfl rfl (by decide) rfl hl.1 (Nat.le_of_ble_eq_true rfl) (by decide) dX7_untouched_68 rfl ?_
  refine lv_iadd hx hb dX7_untouched_71 ?_
  refine z_i (v := 2730) (by decide) ?_
  refine lv_istore_n (lv' := [(1, .int 2730), (4, .int 0), (3, .int 0), (2, .int 5), (0, .ref (q 25))]) hx hb dX7_untouched_72 rfl hl (by decide) rfl (fun ls hl => ?_)
  refine lv_iinc (v := 6) (lv' := [(2, .int 6), (1, .int 2730), (4, .int 0), (3, .int 0), (0, .ref (q 25))]) hx hb dX7_untouched_73 hl (k := 3) rfl (by decide) (by decide) rfl (fun ls hl => ?_)
  refine lv_goto (tgt := 4) hx hb dX7_untouched_76 (by decide) ?_
  refine lv_iload_n hx hb dX7_untouched_4 rfl (lv_at hl 0 rfl) ?_
  refine lv_aload_n hx hb dX7_untouched_5 rfl (lv_at hl 4 rfl) ?_
  refine va_get (D := D) (ci := 7) (v := .ref (q 2)) (C := RX7) (T := TX7) (N := 2) hx hb hts inX7 hown hK hP 25 rfl rfl 0 (by decide) (hts _ kw_684) (fun _ h9 => h9) rfl dX7_untouched_6 ?_
  refine va_get (D := D) (ci := 5) (v := .int 16) (C := RX5) (T := TX5) (N := 16) hx hb hts inX5 hown hK hP 2 rfl rfl 10 (by decide) (hts _ kw_220) (fun _ h9 => h9) rfl dX7_untouched_9 ?_
  refine lv_icmp_ge (tgt := 79) hx hb dX7_untouched_12 (by decide) (fun h => absurd h (by decide)) (fun _ => ?_)
  refine lv_iconst (v := 0) hx hb dX7_untouched_15 (by decide) ?_
  refine lv_istore_n (lv' := [(3, .int 0), (2, .int 6), (1, .int 2730), (4, .int 0), (0, .ref (q 25))]) hx hb dX7_untouched_16 rfl hl (by decide) rfl (fun ls hl => ?_)
  refine lv_iconst (v := 0) hx hb dX7_untouched_17 (by decide) ?_
  refine lv_istore (lv' := [(4, .int 0), (3, .int 0), (2, .int 6), (1, .int 2730), (0, .ref (q 25))]) hx hb dX7_untouched_18 hl (by decide) rfl (fun ls hl => ?_)
  refine lv_iload hx hb dX7_untouched_20 (lv_at hl 0 rfl) ?_
  refine lv_aload_n hx hb dX7_untouched_22 rfl (lv_at hl 4 rfl) ?_
  refine va_get (D := D) (ci := 7) (v := .ref (q 2)) (C := RX7) (T := TX7) (N := 2) hx hb hts inX7 hown hK hP 25 rfl rfl 0 (by decide) (hts _ kw_684) (fun _ h9 => h9) rfl dX7_untouched_23 ?_
  refine va_get (D := D) (ci := 5) (v := .int 0) (C := RX5) (T := TX5) (N := 16) hx hb hts inX5 hown hK hP 2 rfl rfl 3 (by decide) (hts _ kw_203) (fun _ h9 => h9) rfl dX7_untouched_26 ?_
  refine lv_icmp_ge (tgt := 58) hx hb dX7_untouched_29 (by decide) (fun _ => ?_) (fun h => absurd (by decide) h)
  refine lv_iload_n hx hb dX7_untouched_58 rfl (lv_at hl 3 rfl) ?_
  refine lv_iload_n hx hb dX7_untouched_59 rfl (lv_at hl 1 rfl) ?_
  refine lv_if_eq (tgt := 67) hx hb dX7_untouched_60 (by decide) (fun _ => ?_) (fun h => absurd (by decide) h)
  refine lv_aload_n hx hb dX7_untouched_67 rfl (lv_at hl 4 rfl) ?_
  refine rd_V (As := []) (rest := [.int 2730]) (d := 0) caV_SignalTable_Openings_48 hx hb hml hown hts hP hK (rX_X7_handsWithOneCard) (ci := 7) (q0 := 25) rfl rfl (by decide) rfl hl.1 (Nat.le_of_ble_eq_true rfl) (by decide) dX7_untouched_68 rfl ?_
  refine lv_iadd hx hb dX7_untouched_71 ?_
  refine z_i (v := 3185) (by decide) ?_
  refine lv_istore_n (lv' := [(1, .int 3185), (4, .int 0), (3, .int 0), (2, .int 6), (0, .ref (q 25))]) hx hb dX7_untouched_72 rfl hl (by decide) rfl (fun ls hl => ?_)
  refine lv_iinc (v := 7) (lv' := [(2, .int 7), (1, .int 3185), (4, .int 0), (3, .int 0), (0, .ref (q 25))]) hx hb dX7_untouched_73 hl (k := 3) rfl (by decide) (by decide) rfl (fun ls hl => ?_)
  refine lv_goto (tgt := 4) hx hb dX7_untouched_76 (by decide) ?_
  refine lv_iload_n hx hb dX7_untouched_4 rfl (lv_at hl 0 rfl) ?_
  refine lv_aload_n hx hb dX7_untouched_5 rfl (lv_at hl 4 rfl) ?_
  refine va_get (D := D) (ci := 7) (v := .ref (q 2)) (C := RX7) (T := TX7) (N := 2) hx hb hts inX7 hown hK hP 25 rfl rfl 0 (by decide) (hts _ kw_684) (fun _ h9 => h9) rfl dX7_untouched_6 ?_
  refine va_get (D := D) (ci := 5) (v := .int 16) (C := RX5) (T := TX5) (N := 16) hx hb hts inX5 hown hK hP 2 rfl rfl 10 (by decide) (hts _ kw_220) (fun _ h9 => h9) rfl dX7_untouched_9 ?_
  refine lv_icmp_ge (tgt := 79) hx hb dX7_untouched_12 (by decide) (fun h => absurd h (by decide)) (fun _ => ?_)
  refine lv_iconst (v := 0) hx hb dX7_untouched_15 (by decide) ?_
  refine lv_istore_n (lv' := [(3, .int 0), (2, .int 7), (1, .int 3185), (4, .int 0), (0, .ref (q 25))]) hx hb dX7_untouched_16 rfl hl (by decide) rfl (fun ls hl => ?_)
  refine lv_iconst (v := 0) hx hb dX7_untouched_17 (by decide) ?_
  refine lv_istore (lv' := [(4, .int 0), (3, .int 0), (2, .int 7), (1, .int 3185), (0, .ref (q 25))]) hx hb dX7_untouched_18 hl (by decide) rfl (fun ls hl => ?_)
  refine lv_iload hx hb dX7_untouched_20 (lv_at hl 0 rfl) ?_
  refine lv_aload_n hx hb dX7_untouched_22 rfl (lv_at hl 4 rfl) ?_
  refine va_get (D := D) (ci := 7) (v := .ref (q 2)) (C := RX7) (T := TX7) (N := 2) hx hb hts inX7 hown hK hP 25 rfl rfl 0 (by decide) (hts _ kw_684) (fun _ h9 => h9) rfl dX7_untouched_23 ?_
  refine va_get (D := D) (ci := 5) (v := .int 0) (C := RX5) (T := TX5) (N := 16) hx hb hts inX5 hown hK hP 2 rfl rfl 3 (by decide) (hts _ kw_203) (fun _ h9 => h9) rfl dX7_untouched_26 ?_
  refine lv_icmp_ge (tgt := 58) hx hb dX7_untouched_29 (by decide) (fun _ => ?_) (fun h => absurd (by decide) h)
  refine lv_iload_n hx hb dX7_untouched_58 rfl (lv_at hl 3 rfl) ?_
  refine lv_iload_n hx hb dX7_untouched_59 rfl (lv_at hl 1 rfl) ?_
  refine lv_if_eq (tgt := 67) hx hb dX7_untouched_60 (by decide) (fun _ => ?_) (fun h => absurd (by decide) h)
  refine lv_aload_n hx hb dX7_untouched_67 rfl (lv_at hl 4 rfl) ?_
  refine rd_V (As := []) (rest := [.int 3185]) (d := 0) caV_SignalTable_Openings_48 hx hb hml hown hts hP hK (rX_X7_handsWithOneCard) (ci := 7) (q0 := 25) rfl rfl (by decide) rfl hl.1 (Nat.le_of_ble_eq_true rfl) (by decide) dX7_untouched_68 rfl ?_
  refine lv_iadd hx hb dX7_untouched_71 ?_
  refine z_i (v := 3640) (by decide) ?_
  refine lv_istore_n (lv' := [(1, .int 3640), (4, .int 0), (3, .int 0), (2, .int 7), (0, .ref (q 25))]) hx hb dX7_untouched_72 rfl hl (by decide) rfl (fun ls hl => ?_)
  refine lv_iinc (v := 8) (lv' := [(2, .int 8), (1, .int 3640), (4, .int 0), (3, .int 0), (0, .ref (q 25))]) hx hb dX7_untouched_73 hl (k := 3) rfl (by decide) (by decide) rfl (fun ls hl => ?_)
  refine lv_goto (tgt := 4) hx hb dX7_untouched_76 (by decide) ?_
  refine lv_iload_n hx hb dX7_untouched_4 rfl (lv_at hl 0 rfl) ?_
  refine lv_aload_n hx hb dX7_untouched_5 rfl (lv_at hl 4 rfl) ?_
  refine va_get (D := D) (ci := 7) (v := .ref (q 2)) (C := RX7) (T := TX7) (N := 2) hx hb hts inX7 hown hK hP 25 rfl rfl 0 (by decide) (hts _ kw_684) (fun _ h9 => h9) rfl dX7_untouched_6 ?_
  refine va_get (D := D) (ci := 5) (v := .int 16) (C := RX5) (T := TX5) (N := 16) hx hb hts inX5 hown hK hP 2 rfl rfl 10 (by decide) (hts _ kw_220) (fun _ h9 => h9) rfl dX7_untouched_9 ?_
  refine lv_icmp_ge (tgt := 79) hx hb dX7_untouched_12 (by decide) (fun h => absurd h (by decide)) (fun _ => ?_)
  refine lv_iconst (v := 0) hx hb dX7_untouched_15 (by decide) ?_
  refine lv_istore_n (lv' := [(3, .int 0), (2, .int 8), (1, .int 3640), (4, .int 0), (0, .ref (q 25))]) hx hb dX7_untouched_16 rfl hl (by decide) rfl (fun ls hl => ?_)
  refine lv_iconst (v := 0) hx hb dX7_untouched_17 (by decide) ?_
  refine lv_istore (lv' := [(4, .int 0), (3, .int 0), (2, .int 8), (1, .int 3640), (0, .ref (q 25))]) hx hb dX7_untouched_18 hl (by decide) rfl (fun ls hl => ?_)
  refine lv_iload hx hb dX7_untouched_20 (lv_at hl 0 rfl) ?_
  refine lv_aload_n hx hb dX7_untouched_22 rfl (lv_at hl 4 rfl) ?_
  refine va_get (D := D) (ci := 7) (v := .ref (q 2)) (C := RX7) (T := TX7) (N := 2) hx hb hts inX7 hown hK hP 25 rfl rfl 0 (by decide) (hts _ kw_684) (fun _ h9 => h9) rfl dX7_untouched_23 ?_
  refine va_get (D := D) (ci := 5) (v := .int 0) (C := RX5) (T := TX5) (N := 16) hx hb hts inX5 hown hK hP 2 rfl rfl 3 (by decide) (hts _ kw_203) (fun _ h9 => h9) rfl dX7_untouched_26 ?_
  refine lv_icmp_ge (tgt := 58) hx hb dX7_untouched_29 (by decide) (fun _ => ?_) (fun h => absurd (by decide) h)
  refine lv_iload_n hx hb dX7_untouched_58 rfl (lv_at hl 3 rfl) ?_
  refine lv_iload_n hx hb dX7_untouched_59 rfl (lv_at hl 1 rfl) ?_
  refine lv_if_eq (tgt := 67) hx hb dX7_untouched_60 (by decide) (fun _ => ?_) (fun h => absurd (by decide) h)
  refine lv_aload_n hx hb dX7_untouched_67 rfl (lv_at hl 4 rfl) ?_
  refine rd_V (As := []) (rest := [.int 3640]) (d := 0) caV_SignalTable_Openings_48 hx hb hml hown hts hP hK (rX_X7_handsWithOneCard) (ci := 7) (q0 := 25) rfl rfl (by decide) rfl hl.1 (Nat.le_of_ble_eq_true rfl) (by decide) dX7_untouched_68 rfl ?_
  refine lv_iadd hx hb dX7_untouched_71 ?_
  refine z_i (v := 4095) (by decide) ?_
  refine lv_istore_n (lv' := [(1, .int 4095), (4, .int 0), (3, .int 0), (2, .int 8), (0, .ref (q 25))]) hx hb dX7_untouched_72 rfl hl (by decide) rfl (fun ls hl => ?_)
  refine lv_iinc (v := 9) (lv' := [(2, .int 9), (1, .int 4095), (4, .int 0), (3, .int 0), (0, .ref (q 25))]) hx hb dX7_untouched_73 hl (k := 3) rfl (by decide) (by decide) rfl (fun ls hl => ?_)
  refine lv_goto (tgt := 4) hx hb dX7_untouched_76 (by decide) ?_
  refine lv_iload_n hx hb dX7_untouched_4 rfl (lv_at hl 0 rfl) ?_
  refine lv_aload_n hx hb dX7_untouched_5 rfl (lv_at hl 4 rfl) ?_
  refine va_get (D := D) (ci := 7) (v := .ref (q 2)) (C := RX7) (T := TX7) (N := 2) hx hb hts inX7 hown hK hP 25 rfl rfl 0 (by decide) (hts _ kw_684) (fun _ h9 => h9) rfl dX7_untouched_6 ?_
  refine va_get (D := D) (ci := 5) (v := .int 16) (C := RX5) (T := TX5) (N := 16) hx hb hts inX5 hown hK hP 2 rfl rfl 10 (by decide) (hts _ kw_220) (fun _ h9 => h9) rfl dX7_untouched_9 ?_
  refine lv_icmp_ge (tgt := 79) hx hb dX7_untouched_12 (by decide) (fun h => absurd h (by decide)) (fun _ => ?_)
  refine lv_iconst (v := 0) hx hb dX7_untouched_15 (by decide) ?_
  refine lv_istore_n (lv' := [(3, .int 0), (2, .int 9), (1, .int 4095), (4, .int 0), (0, .ref (q 25))]) hx hb dX7_untouched_16 rfl hl (by decide) rfl (fun ls hl => ?_)
  refine lv_iconst (v := 0) hx hb dX7_untouched_17 (by decide) ?_
  refine lv_istore (lv' := [(4, .int 0), (3, .int 0), (2, .int 9), (1, .int 4095), (0, .ref (q 25))]) hx hb dX7_untouched_18 hl (by decide) rfl (fun ls hl => ?_)
  refine lv_iload hx hb dX7_untouched_20 (lv_at hl 0 rfl) ?_
  refine lv_aload_n hx hb dX7_untouched_22 rfl (lv_at hl 4 rfl) ?_
  refine va_get (D := D) (ci := 7) (v := .ref (q 2)) (C := RX7) (T := TX7) (N := 2) hx hb hts inX7 hown hK hP 25 rfl rfl 0 (by decide) (hts _ kw_684) (fun _ h9 => h9) rfl dX7_untouched_23 ?_
  refine va_get (D := D) (ci := 5) (v := .int 0) (C := RX5) (T := TX5) (N := 16) hx hb hts inX5 hown hK hP 2 rfl rfl 3 (by decide) (hts _ kw_203) (fun _ h9 => h9) rfl dX7_untouched_26 ?_
  refine lv_icmp_ge (tgt := 58) hx hb dX7_untouched_29 (by decide) (fun _ => ?_) (fun h => absurd (by decide) h)
  refine lv_iload_n hx hb dX7_untouched_58 rfl (lv_at hl 3 rfl) ?_
  refine lv_iload_n hx hb dX7_untouched_59 rfl (lv_at hl 1 rfl) ?_
  refine lv_if_eq (tgt := 67) hx hb dX7_untouched_60 (by decide) (fun _ => ?_) (fun h => absurd (by decide) h)
  refine lv_aload_n hx hb dX7_untouched_67 rfl (lv_at hl 4 rfl) ?_
  refine rd_V (As := []) (rest := [.int 4095]) (d := 0) caV_SignalTable_Openings_48 hx hb hml hown hts hP hK (rX_X7_handsWithOneCard) (ci := 7) (q0 := 25) rfl rfl (by decide) rfl hl.1 (Nat.le_of_ble_eq_true rfl) (by decide) dX7_untouched_68 rfl ?_
  refine lv_iadd hx hb dX7_untouched_71 ?_
  refine z_i (v := 4550) (by decide) ?_
  refine lv_istore_n (lv' := [(1, .int 4550), (4, .int 0), (3, .int 0), (2, .int 9), (0, .ref (q 25))]) hx hb dX7_untouched_72 rfl hl (by decide) rfl (fun ls hl => ?_)
  refine lv_iinc (v := 10) (lv' := [(2, .int 10), (1, .int 4550), (4, .int 0), (3, .int 0), (0, .ref (q 25))]) hx hb dX7_untouched_73 hl (k := 3) rfl (by decide) (by decide) rfl (fun ls hl => ?_)
  refine lv_goto (tgt := 4) hx hb dX7_untouched_76 (by decide) ?_
  refine lv_iload_n hx hb dX7_untouched_4 rfl (lv_at hl 0 rfl) ?_
  refine lv_aload_n hx hb dX7_untouched_5 rfl (lv_at hl 4 rfl) ?_
  refine va_get (D := D) (ci := 7) (v := .ref (q 2)) (C := RX7) (T := TX7) (N := 2) hx hb hts inX7 hown hK hP 25 rfl rfl 0 (by decide) (hts _ kw_684) (fun _ h9 => h9) rfl dX7_untouched_6 ?_
  refine va_get (D := D) (ci := 5) (v := .int 16) (C := RX5) (T := TX5) (N := 16) hx hb hts inX5 hown hK hP 2 rfl rfl 10 (by decide) (hts _ kw_220) (fun _ h9 => h9) rfl dX7_untouched_9 ?_
  refine lv_icmp_ge (tgt := 79) hx hb dX7_untouched_12 (by decide) (fun h => absurd h (by decide)) (fun _ => ?_)
  refine lv_iconst (v := 0) hx hb dX7_untouched_15 (by decide) ?_
  refine lv_istore_n (lv' := [(3, .int 0), (2, .int 10), (1, .int 4550), (4, .int 0), (0, .ref (q 25))]) hx hb dX7_untouched_16 rfl hl (by decide) rfl (fun ls hl => ?_)
  refine lv_iconst (v := 0) hx hb dX7_untouched_17 (by decide) ?_
  refine lv_istore (lv' := [(4, .int 0), (3, .int 0), (2, .int 10), (1, .int 4550), (0, .ref (q 25))]) hx hb dX7_untouched_18 hl (by decide) rfl (fun ls hl => ?_)
  refine lv_iload hx hb dX7_untouched_20 (lv_at hl 0 rfl) ?_
  refine lv_aload_n hx hb dX7_untouched_22 rfl (lv_at hl 4 rfl) ?_
  refine va_get (D := D) (ci := 7) (v := .ref (q 2)) (C := RX7) (T := TX7) (N := 2) hx hb hts inX7 hown hK hP 25 rfl rfl 0 (by decide) (hts _ kw_684) (fun _ h9 => h9) rfl dX7_untouched_23 ?_
  refine va_get (D := D) (ci := 5) (v := .int 0) (C := RX5) (T := TX5) (N := 16) hx hb hts inX5 hown hK hP 2 rfl rfl 3 (by decide) (hts _ kw_203) (fun _ h9 => h9) rfl dX7_untouched_26 ?_
  refine lv_icmp_ge (tgt := 58) hx hb dX7_untouched_29 (by decide) (fun _ => ?_) (fun h => absurd (by decide) h)
  refine lv_iload_n hx hb dX7_untouched_58 rfl (lv_at hl 3 rfl) ?_
  refine lv_iload_n hx hb dX7_untouched_59 rfl (lv_at hl 1 rfl) ?_
  refine lv_if_eq (tgt := 67) hx hb dX7_untouched_60 (by decide) (fun _ => ?_) (fun h => absurd (by decide) h)
  refine lv_aload_n hx hb dX7_untouched_67 rfl (lv_at hl 4 rfl) ?_
  refine rd_V (As := []) (rest := [.int 4550]) (d := 0) caV_SignalTable_Openings_48 hx hb hml hown hts hP hK (rX_X7_handsWithOneCard) (ci := 7) (q0 := 25) rfl rfl (by decide) rfl hl.1 (Nat.le_of_ble_eq_true rfl) (by decide) dX7_untouched_68 rfl ?_
  refine lv_iadd hx hb dX7_untouched_71 ?_
  refine z_i (v := 5005) (by decide) ?_
  refine lv_istore_n (lv' := [(1, .int 5005), (4, .int 0), (3, .int 0), (2, .int 10), (0, .ref (q 25))]) hx hb dX7_untouched_72 rfl hl (by decide) rfl (fun ls hl => ?_)
  refine lv_iinc (v := 11) (lv' := [(2, .int 11), (1, .int 5005), (4, .int 0), (3, .int 0), (0, .ref (q 25))]) hx hb dX7_untouched_73 hl (k := 3) rfl (by decide) (by decide) rfl (fun ls hl => ?_)
  refine lv_goto (tgt := 4) hx hb dX7_untouched_76 (by decide) ?_
  refine lv_iload_n hx hb dX7_untouched_4 rfl (lv_at hl 0 rfl) ?_
  refine lv_aload_n hx hb dX7_untouched_5 rfl (lv_at hl 4 rfl) ?_
  refine va_get (D := D) (ci := 7) (v := .ref (q 2)) (C := RX7) (T := TX7) (N := 2) hx hb hts inX7 hown hK hP 25 rfl rfl 0 (by decide) (hts _ kw_684) (fun _ h9 => h9) rfl dX7_untouched_6 ?_
  refine va_get (D := D) (ci := 5) (v := .int 16) (C := RX5) (T := TX5) (N := 16) hx hb hts inX5 hown hK hP 2 rfl rfl 10 (by decide) (hts _ kw_220) (fun _ h9 => h9) rfl dX7_untouched_9 ?_
  refine lv_icmp_ge (tgt := 79) hx hb dX7_untouched_12 (by decide) (fun h => absurd h (by decide)) (fun _ => ?_)
  refine lv_iconst (v := 0) hx hb dX7_untouched_15 (by decide) ?_
  refine lv_istore_n (lv' := [(3, .int 0), (2, .int 11), (1, .int 5005), (4, .int 0), (0, .ref (q 25))]) hx hb dX7_untouched_16 rfl hl (by decide) rfl (fun ls hl => ?_)
  refine lv_iconst (v := 0) hx hb dX7_untouched_17 (by decide) ?_
  refine lv_istore (lv' := [(4, .int 0), (3, .int 0), (2, .int 11), (1, .int 5005), (0, .ref (q 25))]) hx hb dX7_untouched_18 hl (by decide) rfl (fun ls hl => ?_)
  refine lv_iload hx hb dX7_untouched_20 (lv_at hl 0 rfl) ?_
  refine lv_aload_n hx hb dX7_untouched_22 rfl (lv_at hl 4 rfl) ?_
  refine va_get (D := D) (ci := 7) (v := .ref (q 2)) (C := RX7) (T := TX7) (N := 2) hx hb hts inX7 hown hK hP 25 rfl rfl 0 (by decide) (hts _ kw_684) (fun _ h9 => h9) rfl dX7_untouched_23 ?_
  refine va_get (D := D) (ci := 5) (v := .int 0) (C := RX5) (T := TX5) (N := 16) hx hb hts inX5 hown hK hP 2 rfl rfl 3 (by decide) (hts _ kw_203) (fun _ h9 => h9) rfl dX7_untouched_26 ?_
  refine lv_icmp_ge (tgt := 58) hx hb dX7_untouched_29 (by decide) (fun _ => ?_) (fun h => absurd (by decide) h)
  refine lv_iload_n hx hb dX7_untouched_58 rfl (lv_at hl 3 rfl) ?_
  refine lv_iload_n hx hb dX7_untouched_59 rfl (lv_at hl 1 rfl) ?_
  refine lv_if_eq (tgt := 67) hx hb dX7_untouched_60 (by decide) (fun _ => ?_) (fun h => absurd (by decide) h)
  refine lv_aload_n hx hb dX7_untouched_67 rfl (lv_at hl 4 rfl) ?_
  refine rd_V (As := []) (rest := [.int 5005]) (d := 0) caV_SignalTable_Openings_48 hx hb hml hown hts hP hK (rX_X7_handsWithOneCard) (ci := 7) (q0 := 25) rfl rfl (by decide) rfl hl.1 (Nat.le_of_ble_eq_true rfl) (by decide) dX7_untouched_68 rfl ?_
  refine lv_iadd hx hb dX7_untouched_71 ?_
  refine z_i (v := 5460) (by decide) ?_
  refine lv_istore_n (lv' := [(1, .int 5460), (4, .int 0), (3, .int 0), (2, .int 11), (0, .ref (q 25))]) hx hb dX7_untouched_72 rfl hl (by decide) rfl (fun ls hl => ?_)
  refine lv_iinc (v := 12) (lv' := [(2, .int 12), (1, .int 5460), (4, .int 0), (3, .int 0), (0, .ref (q 25))]) hx hb dX7_untouched_73 hl (k := 3) rfl (by decide) (by decide) rfl (fun ls hl => ?_)
  refine lv_goto (tgt := 4) hx hb dX7_untouched_76 (by decide) ?_
  refine lv_iload_n hx hb dX7_untouched_4 rfl (lv_at hl 0 rfl) ?_
  refine lv_aload_n hx hb dX7_untouched_5 rfl (lv_at hl 4 rfl) ?_
  refine va_get (D := D) (ci := 7) (v := .ref (q 2)) (C := RX7) (T := TX7) (N := 2) hx hb hts inX7 hown hK hP 25 rfl rfl 0 (by decide) (hts _ kw_684) (fun _ h9 => h9) rfl dX7_untouched_6 ?_
  refine va_get (D := D) (ci := 5) (v := .int 16) (C := RX5) (T := TX5) (N := 16) hx hb hts inX5 hown hK hP 2 rfl rfl 10 (by decide) (hts _ kw_220) (fun _ h9 => h9) rfl dX7_untouched_9 ?_
  refine lv_icmp_ge (tgt := 79) hx hb dX7_untouched_12 (by decide) (fun h => absurd h (by decide)) (fun _ => ?_)
  refine lv_iconst (v := 0) hx hb dX7_untouched_15 (by decide) ?_
  refine lv_istore_n (lv' := [(3, .int 0), (2, .int 12), (1, .int 5460), (4, .int 0), (0, .ref (q 25))]) hx hb dX7_untouched_16 rfl hl (by decide) rfl (fun ls hl => ?_)
  refine lv_iconst (v := 0) hx hb dX7_untouched_17 (by decide) ?_
  refine lv_istore (lv' := [(4, .int 0), (3, .int 0), (2, .int 12), (1, .int 5460), (0, .ref (q 25))]) hx hb dX7_untouched_18 hl (by decide) rfl (fun ls hl => ?_)
  refine lv_iload hx hb dX7_untouched_20 (lv_at hl 0 rfl) ?_
  refine lv_aload_n hx hb dX7_untouched_22 rfl (lv_at hl 4 rfl) ?_
  refine va_get (D := D) (ci := 7) (v := .ref (q 2)) (C := RX7) (T := TX7) (N := 2) hx hb hts inX7 hown hK hP 25 rfl rfl 0 (by decide) (hts _ kw_684) (fun _ h9 => h9) rfl dX7_untouched_23 ?_
  refine va_get (D := D) (ci := 5) (v := .int 0) (C := RX5) (T := TX5) (N := 16) hx hb hts inX5 hown hK hP 2 rfl rfl 3 (by decide) (hts _ kw_203) (fun _ h9 => h9) rfl dX7_untouched_26 ?_
  refine lv_icmp_ge (tgt := 58) hx hb dX7_untouched_29 (by decide) (fun _ => ?_) (fun h => absurd (by decide) h)
  refine lv_iload_n hx hb dX7_untouched_58 rfl (lv_at hl 3 rfl) ?_
  refine lv_iload_n hx hb dX7_untouched_59 rfl (lv_at hl 1 rfl) ?_
  refine lv_if_eq (tgt := 67) hx hb dX7_untouched_60 (by decide) (fun _ => ?_) (fun h => absurd (by decide) h)
  refine lv_aload_n hx hb dX7_untouched_67 rfl (lv_at hl 4 rfl) ?_
  refine rd_V (As := []) (rest := [.int 5460]) (d := 0) caV_SignalTable_Openings_48 hx hb hml hown hts hP hK (rX_X7_handsWithOneCard) (ci := 7) (q0 := 25) rfl rfl (by decide) rfl hl.1 (Nat.le_of_ble_eq_true rfl) (by decide) dX7_untouched_68 rfl ?_
  refine lv_iadd hx hb dX7_untouched_71 ?_
  refine z_i (v := 5915) (by decide) ?_
  refine lv_istore_n (lv' := [(1, .int 5915), (4, .int 0), (3, .int 0), (2, .int 12), (0, .ref (q 25))]) hx hb dX7_untouched_72 rfl hl (by decide) rfl (fun ls hl => ?_)
  refine lv_iinc (v := 13) (lv' := [(2, .int 13), (1, .int 5915), (4, .int 0), (3, .int 0), (0, .ref (q 25))]) hx hb dX7_untouched_73 hl (k := 3) rfl (by decide) (by decide) rfl (fun ls hl => ?_)
  refine lv_goto (tgt := 4) hx hb dX7_untouched_76 (by decide) ?_
  refine lv_iload_n hx hb dX7_untouched_4 rfl (lv_at hl 0 rfl) ?_
  refine lv_aload_n hx hb dX7_untouched_5 rfl (lv_at hl 4 rfl) ?_
  refine va_get (D := D) (ci := 7) (v := .ref (q 2)) (C := RX7) (T := TX7) (N := 2) hx hb hts inX7 hown hK hP 25 rfl rfl 0 (by decide) (hts _ kw_684) (fun _ h9 => h9) rfl dX7_untouched_6 ?_
  refine va_get (D := D) (ci := 5) (v := .int 16) (C := RX5) (T := TX5) (N := 16) hx hb hts inX5 hown hK hP 2 rfl rfl 10 (by decide) (hts _ kw_220) (fun _ h9 => h9) rfl dX7_untouched_9 ?_
  refine lv_icmp_ge (tgt := 79) hx hb dX7_untouched_12 (by decide) (fun h => absurd h (by decide)) (fun _ => ?_)
  refine lv_iconst (v := 0) hx hb dX7_untouched_15 (by decide) ?_
  refine lv_istore_n (lv' := [(3, .int 0), (2, .int 13), (1, .int 5915), (4, .int 0), (0, .ref (q 25))]) hx hb dX7_untouched_16 rfl hl (by decide) rfl (fun ls hl => ?_)
  refine lv_iconst (v := 0) hx hb dX7_untouched_17 (by decide) ?_
  refine lv_istore (lv' := [(4, .int 0), (3, .int 0), (2, .int 13), (1, .int 5915), (0, .ref (q 25))]) hx hb dX7_untouched_18 hl (by decide) rfl (fun ls hl => ?_)
  refine lv_iload hx hb dX7_untouched_20 (lv_at hl 0 rfl) ?_
  refine lv_aload_n hx hb dX7_untouched_22 rfl (lv_at hl 4 rfl) ?_
  refine va_get (D := D) (ci := 7) (v := .ref (q 2)) (C := RX7) (T := TX7) (N := 2) hx hb hts inX7 hown hK hP 25 rfl rfl 0 (by decide) (hts _ kw_684) (fun _ h9 => h9) rfl dX7_untouched_23 ?_
  refine va_get (D := D) (ci := 5) (v := .int 0) (C := RX5) (T := TX5) (N := 16) hx hb hts inX5 hown hK hP 2 rfl rfl 3 (by decide) (hts _ kw_203) (fun _ h9 => h9) rfl dX7_untouched_26 ?_
  refine lv_icmp_ge (tgt := 58) hx hb dX7_untouched_29 (by decide) (fun _ => ?_) (fun h => absurd (by decide) h)
  refine lv_iload_n hx hb dX7_untouched_58 rfl (lv_at hl 3 rfl) ?_
  refine lv_iload_n hx hb dX7_untouched_59 rfl (lv_at hl 1 rfl) ?_
  refine lv_if_eq (tgt := 67) hx hb dX7_untouched_60 (by decide) (fun _ => ?_) (fun h => absurd (by decide) h)
  refine lv_aload_n hx hb dX7_untouched_67 rfl (lv_at hl 4 rfl) ?_
  refine rd_V (As := []) (rest := [.int 5915]) (d := 0) caV_SignalTable_Openings_48 hx hb hml hown hts hP hK (rX_X7_handsWithOneCard) (ci := 7) (q0 := 25) rfl rfl (by decide) rfl hl.1 (Nat.le_of_ble_eq_true rfl) (by decide) dX7_untouched_68 rfl ?_
  refine lv_iadd hx hb dX7_untouched_71 ?_
  refine z_i (v := 6370) (by decide) ?_
  refine lv_istore_n (lv' := [(1, .int 6370), (4, .int 0), (3, .int 0), (2, .int 13), (0, .ref (q 25))]) hx hb dX7_untouched_72 rfl hl (by decide) rfl (fun ls hl => ?_)
  refine lv_iinc (v := 14) (lv' := [(2, .int 14), (1, .int 6370), (4, .int 0), (3, .int 0), (0, .ref (q 25))]) hx hb dX7_untouched_73 hl (k := 3) rfl (by decide) (by decide) rfl (fun ls hl => ?_)
  refine lv_goto (tgt := 4) hx hb dX7_untouched_76 (by decide) ?_
  refine lv_iload_n hx hb dX7_untouched_4 rfl (lv_at hl 0 rfl) ?_
  refine lv_aload_n hx hb dX7_untouched_5 rfl (lv_at hl 4 rfl) ?_
  refine va_get (D := D) (ci := 7) (v := .ref (q 2)) (C := RX7) (T := TX7) (N := 2) hx hb hts inX7 hown hK hP 25 rfl rfl 0 (by decide) (hts _ kw_684) (fun _ h9 => h9) rfl dX7_untouched_6 ?_
  refine va_get (D := D) (ci := 5) (v := .int 16) (C := RX5) (T := TX5) (N := 16) hx hb hts inX5 hown hK hP 2 rfl rfl 10 (by decide) (hts _ kw_220) (fun _ h9 => h9) rfl dX7_untouched_9 ?_
  refine lv_icmp_ge (tgt := 79) hx hb dX7_untouched_12 (by decide) (fun h => absurd h (by decide)) (fun _ => ?_)
  refine lv_iconst (v := 0) hx hb dX7_untouched_15 (by decide) ?_
  refine lv_istore_n (lv' := [(3, .int 0), (2, .int 14), (1, .int 6370), (4, .int 0), (0, .ref (q 25))]) hx hb dX7_untouched_16 rfl hl (by decide) rfl (fun ls hl => ?_)
  refine lv_iconst (v := 0) hx hb dX7_untouched_17 (by decide) ?_
  refine lv_istore (lv' := [(4, .int 0), (3, .int 0), (2, .int 14), (1, .int 6370), (0, .ref (q 25))]) hx hb dX7_untouched_18 hl (by decide) rfl (fun ls hl => ?_)
  refine lv_iload hx hb dX7_untouched_20 (lv_at hl 0 rfl) ?_
  refine lv_aload_n hx hb dX7_untouched_22 rfl (lv_at hl 4 rfl) ?_
  refine va_get (D := D) (ci := 7) (v := .ref (q 2)) (C := RX7) (T := TX7) (N := 2) hx hb hts inX7 hown hK hP 25 rfl rfl 0 (by decide) (hts _ kw_684) (fun _ h9 => h9) rfl dX7_untouched_23 ?_
  refine va_get (D := D) (ci := 5) (v := .int 0) (C := RX5) (T := TX5) (N := 16) hx hb hts inX5 hown hK hP 2 rfl rfl 3 (by decide) (hts _ kw_203) (fun _ h9 => h9) rfl dX7_untouched_26 ?_
  refine lv_icmp_ge (tgt := 58) hx hb dX7_untouched_29 (by decide) (fun _ => ?_) (fun h => absurd (by decide) h)
  refine lv_iload_n hx hb dX7_untouched_58 rfl (lv_at hl 3 rfl) ?_
  refine lv_iload_n hx hb dX7_untouched_59 rfl (lv_at hl 1 rfl) ?_
  refine lv_if_eq (tgt := 67) hx hb dX7_untouched_60 (by decide) (fun _ => ?_) (fun h => absurd (by decide) h)
  refine lv_aload_n hx hb dX7_untouched_67 rfl (lv_at hl 4 rfl) ?_
  refine rd_V (As := []) (rest := [.int 6370]) (d := 0) caV_SignalTable_Openings_48 hx hb hml hown hts hP hK (rX_X7_handsWithOneCard) (ci := 7) (q0 := 25) rfl rfl (by decide) rfl hl.1 (Nat.le_of_ble_eq_true rfl) (by decide) dX7_untouched_68 rfl ?_
  refine lv_iadd hx hb dX7_untouched_71 ?_
  refine z_i (v := 6825) (by decide) ?_
  refine lv_istore_n (lv' := [(1, .int 6825), (4, .int 0), (3, .int 0), (2, .int 14), (0, .ref (q 25))]) hx hb dX7_untouched_72 rfl hl (by decide) rfl (fun ls hl => ?_)
  refine lv_iinc (v := 15) (lv' := [(2, .int 15), (1, .int 6825), (4, .int 0), (3, .int 0), (0, .ref (q 25))]) hx hb dX7_untouched_73 hl (k := 3) rfl (by decide) (by decide) rfl (fun ls hl => ?_)
  refine lv_goto (tgt := 4) hx hb dX7_untouched_76 (by decide) ?_
  refine lv_iload_n hx hb dX7_untouched_4 rfl (lv_at hl 0 rfl) ?_
  refine lv_aload_n hx hb dX7_untouched_5 rfl (lv_at hl 4 rfl) ?_
  refine va_get (D := D) (ci := 7) (v := .ref (q 2)) (C := RX7) (T := TX7) (N := 2) hx hb hts inX7 hown hK hP 25 rfl rfl 0 (by decide) (hts _ kw_684) (fun _ h9 => h9) rfl dX7_untouched_6 ?_
  refine va_get (D := D) (ci := 5) (v := .int 16) (C := RX5) (T := TX5) (N := 16) hx hb hts inX5 hown hK hP 2 rfl rfl 10 (by decide) (hts _ kw_220) (fun _ h9 => h9) rfl dX7_untouched_9 ?_
  refine lv_icmp_ge (tgt := 79) hx hb dX7_untouched_12 (by decide) (fun h => absurd h (by decide)) (fun _ => ?_)
  refine lv_iconst (v := 0) hx hb dX7_untouched_15 (by decide) ?_
  refine lv_istore_n (lv' := [(3, .int 0), (2, .int 15), (1, .int 6825), (4, .int 0), (0, .ref (q 25))]) hx hb dX7_untouched_16 rfl hl (by decide) rfl (fun ls hl => ?_)
  refine lv_iconst (v := 0) hx hb dX7_untouched_17 (by decide) ?_
  refine lv_istore (lv' := [(4, .int 0), (3, .int 0), (2, .int 15), (1, .int 6825), (0, .ref (q 25))]) hx hb dX7_untouched_18 hl (by decide) rfl (fun ls hl => ?_)
  refine lv_iload hx hb dX7_untouched_20 (lv_at hl 0 rfl) ?_
  refine lv_aload_n hx hb dX7_untouched_22 rfl (lv_at hl 4 rfl) ?_
  refine va_get (D := D) (ci := 7) (v := .ref (q 2)) (C := RX7) (T := TX7) (N := 2) hx hb hts inX7 hown hK hP 25 rfl rfl 0 (by decide) (hts _ kw_684) (fun _ h9 => h9) rfl dX7_untouched_23 ?_
  refine va_get (D := D) (ci := 5) (v := .int 0) (C := RX5) (T := TX5) (N := 16) hx hb hts inX5 hown hK hP 2 rfl rfl 3 (by decide) (hts _ kw_203) (fun _ h9 => h9) rfl dX7_untouched_26 ?_
  refine lv_icmp_ge (tgt := 58) hx hb dX7_untouched_29 (by decide) (fun _ => ?_) (fun h => absurd (by decide) h)
  refine lv_iload_n hx hb dX7_untouched_58 rfl (lv_at hl 3 rfl) ?_
  refine lv_iload_n hx hb dX7_untouched_59 rfl (lv_at hl 1 rfl) ?_
  refine lv_if_eq (tgt := 67) hx hb dX7_untouched_60 (by decide) (fun _ => ?_) (fun h => absurd (by decide) h)
  refine lv_aload_n hx hb dX7_untouched_67 rfl (lv_at hl 4 rfl) ?_
  refine rd_V (As := []) (rest := [.int 6825]) (d := 0) caV_SignalTable_Openings_48 hx hb hml hown hts hP hK (rX_X7_handsWithOneCard) (ci := 7) (q0 := 25) rfl rfl (by decide) rfl hl.1 (Nat.le_of_ble_eq_true rfl) (by decide) dX7_untouched_68 rfl ?_
  refine lv_iadd hx hb dX7_untouched_71 ?_
  refine z_i (v := 7280) (by decide) ?_
  refine lv_istore_n (lv' := [(1, .int 7280), (4, .int 0), (3, .int 0), (2, .int 15), (0, .ref (q 25))]) hx hb dX7_untouched_72 rfl hl (by decide) rfl (fun ls hl => ?_)
  refine lv_iinc (v := 16) (lv' := [(2, .int 16), (1, .int 7280), (4, .int 0), (3, .int 0), (0, .ref (q 25))]) hx hb dX7_untouched_73 hl (k := 3) rfl (by decide) (by decide) rfl (fun ls hl => ?_)
  refine lv_goto (tgt := 4) hx hb dX7_untouched_76 (by decide) ?_
  refine lv_iload_n hx hb dX7_untouched_4 rfl (lv_at hl 0 rfl) ?_
  refine lv_aload_n hx hb dX7_untouched_5 rfl (lv_at hl 4 rfl) ?_
  refine va_get (D := D) (ci := 7) (v := .ref (q 2)) (C := RX7) (T := TX7) (N := 2) hx hb hts inX7 hown hK hP 25 rfl rfl 0 (by decide) (hts _ kw_684) (fun _ h9 => h9) rfl dX7_untouched_6 ?_
  refine va_get (D := D) (ci := 5) (v := .int 16) (C := RX5) (T := TX5) (N := 16) hx hb hts inX5 hown hK hP 2 rfl rfl 10 (by decide) (hts _ kw_220) (fun _ h9 => h9) rfl dX7_untouched_9 ?_
  refine lv_icmp_ge (tgt := 79) hx hb dX7_untouched_12 (by decide) (fun _ => ?_) (fun h => absurd (by decide) h)
  refine lv_iload_n hx hb dX7_untouched_79 rfl (lv_at hl 1 rfl) ?_
  exact rd_i hx hb hr hlocks (rfl) dX7_untouched_80
set_option maxHeartbeats 4000000 in
set_option maxRecDepth 100000 in
theorem rX_X11_isCustom {l : Launch} {D : va_G} {q : Nat → Nat} {k : Nat → ClassId} {g : Nat → Nat → Int32} {gl : Nat → Nat → Int64} (p1 : Int32) : Rd l yX11_isCustom cX11_isCustom 2 (some .boolean) 0 D (wX q k g gl) (tyX k) [.ref (q 0), .int p1] (.int 0) := by
  refine Rd.of (by decide) (Nat.le_of_ble_eq_true rfl) ?_
  intro p e s m below meth c ls hx hb hr hml hown hts hlocks hP hK hl
  have hown : s.vm.findClass "SignalTable" = some m.cls := hown
  have hl : lv_has ls 2 [(0, .ref (q 0)), (1, .int p1)] := hl
  refine lv_iload_n hx hb dX11_isCustom_0 rfl (lv_at hl 1 rfl) ?_
  refine lv_if_lt (tgt := 19) hx hb dX11_isCustom_1 (by decide) (fun c_1 => ?_) (fun c_1 => ?_)
  · skip
    refine lv_iconst (v := 0) hx hb dX11_isCustom_19 (by decide) ?_
    exact rd_z hx hb hr hlocks rfl (rfl) dX11_isCustom_20
  · skip
    refine lv_iload_n hx hb dX11_isCustom_4 rfl (lv_at hl 1 rfl) ?_
    refine lv_aload_n hx hb dX11_isCustom_5 rfl (lv_at hl 0 rfl) ?_
    refine va_get (D := D) (ci := 11) (v := .ref (q 2)) (C := RX11) (T := TX11) (N := 14) hx hb hts inX11 hown hK hP 0 rfl rfl 2 (by decide) (hts _ kw_709) (fun _ h9 => h9) rfl dX11_isCustom_6 ?_
    refine va_get (D := D) (ci := 5) (v := .int 0) (C := RX5) (T := TX5) (N := 16) hx hb hts inX5 hown hK hP 2 rfl rfl 3 (by decide) (hts _ kw_204) (fun _ h9 => h9) rfl dX11_isCustom_9 ?_
    refine lv_icmp_ge (tgt := 19) hx hb dX11_isCustom_12 (by decide) (fun c_2 => ?_) (fun c_2 => ?_)
    · skip
      refine lv_iconst (v := 0) hx hb dX11_isCustom_19 (by decide) ?_
      exact rd_z hx hb hr hlocks rfl (rfl) dX11_isCustom_20
    · skip
      exfalso
      simp only [Int32.lt_iff_toInt_lt, Int32.le_iff_toInt_le, ← Int32.toInt_inj, ti_m2, ti_m1, ti_0, ti_1, ti_2, ti_3, ti_4, ti_5, ti_6, ti_7, ti_8, ti_10, ti_20] at c_1 c_2 <;> omega
set_option maxHeartbeats 4000000 in
set_option maxRecDepth 100000 in
theorem rX_X11_areCustoms {l : Launch} {D : va_G} {q : Nat → Nat} {k : Nat → ClassId} {g : Nat → Nat → Int32} {gl : Nat → Nat → Int64} (p1 : Int32) : Rd l yX11_areCustoms cX11_areCustoms 2 (some .boolean) 0 D (wX q k g gl) (tyX k) [.ref (q 0), .int p1] (.int (if 0 ≤ p1 ∧ p1 ≤ 0 then 1 else 0)) := by
  refine Rd.of (by decide) (Nat.le_of_ble_eq_true rfl) ?_
  intro p e s m below meth c ls hx hb hr hml hown hts hlocks hP hK hl
  have hown : s.vm.findClass "SignalTable" = some m.cls := hown
  have hl : lv_has ls 2 [(0, .ref (q 0)), (1, .int p1)] := hl
  refine lv_iload_n hx hb dX11_areCustoms_0 rfl (lv_at hl 1 rfl) ?_
  refine lv_if_lt (tgt := 21) hx hb dX11_areCustoms_1 (by decide) (fun c_1 => ?_) (fun c_1 => ?_)
  · skip
    refine lv_iconst (v := 0) hx hb dX11_areCustoms_21 (by decide) ?_
    exact rd_z hx hb hr hlocks rfl (congrArg Value.int (by by_cases s_1 : 0 ≤ p1 ∧ p1 ≤ 0 <;> simp only [s_1, if_true, if_false, and_self, not_false_eq_true, not_true_eq_false] <;> first | rfl | (exfalso; simp only [Int32.lt_iff_toInt_lt, Int32.le_iff_toInt_le, ← Int32.toInt_inj, ti_m2, ti_m1, ti_0, ti_1, ti_2, ti_3, ti_4, ti_5, ti_6, ti_7, ti_8, ti_10, ti_20] at s_1 c_1 <;> omega))) dX11_areCustoms_22
  · skip
    refine lv_iload_n hx hb dX11_areCustoms_4 rfl (lv_at hl 1 rfl) ?_
    refine lv_iconst (v := 1) hx hb dX11_areCustoms_5 (by decide) ?_
    refine lv_aload_n hx hb dX11_areCustoms_6 rfl (lv_at hl 0 rfl) ?_
    refine va_get (D := D) (ci := 11) (v := .ref (q 2)) (C := RX11) (T := TX11) (N := 14) hx hb hts inX11 hown hK hP 0 rfl rfl 2 (by decide) (hts _ kw_709) (fun _ h9 => h9) rfl dX11_areCustoms_7 ?_
    refine va_get (D := D) (ci := 5) (v := .int 0) (C := RX5) (T := TX5) (N := 16) hx hb hts inX5 hown hK hP 2 rfl rfl 3 (by decide) (hts _ kw_204) (fun _ h9 => h9) rfl dX11_areCustoms_10 ?_
    refine lv_ishl hx hb dX11_areCustoms_13 ?_
    refine z_i (v := 1) (by decide) ?_
    refine lv_icmp_ge (tgt := 21) hx hb dX11_areCustoms_14 (by decide) (fun c_2 => ?_) (fun c_2 => ?_)
    · skip
      refine lv_iconst (v := 0) hx hb dX11_areCustoms_21 (by decide) ?_
      exact rd_z hx hb hr hlocks rfl (congrArg Value.int (by by_cases s_1 : 0 ≤ p1 ∧ p1 ≤ 0 <;> simp only [s_1, if_true, if_false, and_self, not_false_eq_true, not_true_eq_false] <;> first | rfl | (exfalso; simp only [Int32.lt_iff_toInt_lt, Int32.le_iff_toInt_le, ← Int32.toInt_inj, ti_m2, ti_m1, ti_0, ti_1, ti_2, ti_3, ti_4, ti_5, ti_6, ti_7, ti_8, ti_10, ti_20] at s_1 c_1 c_2 <;> omega))) dX11_areCustoms_22
    · skip
      refine lv_iconst (v := 1) hx hb dX11_areCustoms_17 (by decide) ?_
      refine lv_goto (tgt := 22) hx hb dX11_areCustoms_18 (by decide) ?_
      exact rd_z hx hb hr hlocks rfl (congrArg Value.int (by by_cases s_1 : 0 ≤ p1 ∧ p1 ≤ 0 <;> simp only [s_1, if_true, if_false, and_self, not_false_eq_true, not_true_eq_false] <;> first | rfl | (exfalso; simp only [Int32.lt_iff_toInt_lt, Int32.le_iff_toInt_le, ← Int32.toInt_inj, ti_m2, ti_m1, ti_0, ti_1, ti_2, ti_3, ti_4, ti_5, ti_6, ti_7, ti_8, ti_10, ti_20] at s_1 c_1 c_2 <;> omega))) dX11_areCustoms_22
set_option maxHeartbeats 4000000 in
set_option maxRecDepth 100000 in
theorem rX_X11_canSee {l : Launch} {D : va_G} {q : Nat → Nat} {k : Nat → ClassId} {g : Nat → Nat → Int32} {gl : Nat → Nat → Int64} (p1 p2 : Int32) : Rd l yX11_canSee cX11_canSee 3 (some .boolean) 0 D (wX q k g gl) (tyX k) [.ref (q 0), .int p1, .int p2] (.int 0) := by
  refine Rd.of (by decide) (Nat.le_of_ble_eq_true rfl) ?_
  intro p e s m below meth c ls hx hb hr hml hown hts hlocks hP hK hl
  have hown : s.vm.findClass "SignalTable" = some m.cls := hown
  have hl : lv_has ls 3 [(0, .ref (q 0)), (1, .int p1), (2, .int p2)] := hl
  refine lv_aload_n hx hb dX11_canSee_0 rfl (lv_at hl 0 rfl) ?_
  refine va_get (D := D) (ci := 11) (v := .ref (q 11)) (C := RX11) (T := TX11) (N := 14) hx hb hts inX11 hown hK hP 0 rfl rfl 5 (by decide) (hts _ kw_712) (fun _ h9 => h9) rfl dX11_canSee_1 ?_
  refine va_get (D := D) (ci := 3) (v := .int 0) (C := RX3) (T := TX3) (N := 18) hx hb hts inX3 hown hK hP 11 rfl rfl 2 (by decide) (hts _ kw_423) (fun _ h9 => h9) rfl dX11_canSee_4 ?_
  refine lv_if_eq (tgt := 30) hx hb dX11_canSee_7 (by decide) (fun _ => ?_) (fun h => absurd (by decide) h)
  refine lv_iconst (v := 0) hx hb dX11_canSee_30 (by decide) ?_
  exact rd_z hx hb hr hlocks rfl (rfl) dX11_canSee_31
set_option maxHeartbeats 4000000 in
set_option maxRecDepth 100000 in
theorem rX_X11_isInHand {l : Launch} {D : va_G} {q : Nat → Nat} {k : Nat → ClassId} {g : Nat → Nat → Int32} {gl : Nat → Nat → Int64} (p1 : Int32) : Rd l yX11_isInHand cX11_isInHand 2 (some .boolean) 0 D (wX q k g gl) (tyX k) [.ref (q 0), .int p1] (.int 0) := by
  refine Rd.of (by decide) (Nat.le_of_ble_eq_true rfl) ?_
  intro p e s m below meth c ls hx hb hr hml hown hts hlocks hP hK hl
  have hown : s.vm.findClass "SignalTable" = some m.cls := hown
  have hl : lv_has ls 2 [(0, .ref (q 0)), (1, .int p1)] := hl
  refine lv_aload_n hx hb dX11_isInHand_0 rfl (lv_at hl 0 rfl) ?_
  refine va_get (D := D) (ci := 11) (v := .ref (q 11)) (C := RX11) (T := TX11) (N := 14) hx hb hts inX11 hown hK hP 0 rfl rfl 5 (by decide) (hts _ kw_712) (fun _ h9 => h9) rfl dX11_isInHand_1 ?_
  refine va_get (D := D) (ci := 3) (v := .int (-2)) (C := RX3) (T := TX3) (N := 18) hx hb hts inX3 hown hK hP 11 rfl rfl 6 (by decide) (hts _ kw_437) (fun _ h9 => h9) rfl dX11_isInHand_4 ?_
  refine lv_if_lt (tgt := 44) hx hb dX11_isInHand_7 (by decide) (fun _ => ?_) (fun h => absurd (by decide) h)
  refine lv_iconst (v := 0) hx hb dX11_isInHand_44 (by decide) ?_
  exact rd_z hx hb hr hlocks rfl (rfl) dX11_isInHand_45
set_option maxHeartbeats 4000000 in
set_option maxRecDepth 100000 in
theorem rX_X11_refusal {l : Launch} {D : va_G} {q : Nat → Nat} {k : Nat → ClassId} {g : Nat → Nat → Int32} {gl : Nat → Nat → Int64} (p1 : Int32) : Rd l yX11_refusal cX11_refusal 2 (some .int) 1 D (wX q k g gl) (tyX k) [.ref (q 0), .int p1] (.int (-1)) := by
  refine Rd.of (by decide) (Nat.le_of_ble_eq_true rfl) ?_
  intro p e s m below meth c ls hx hb hr hml hown hts hlocks hP hK hl
  have hown : s.vm.findClass "SignalTable" = some m.cls := hown
  have hl : lv_has ls 2 [(0, .ref (q 0)), (1, .int p1)] := hl
  refine lv_aload_n hx hb dX11_refusal_0 rfl (lv_at hl 0 rfl) ?_
  refine lv_iload_n hx hb dX11_refusal_1 rfl (lv_at hl 1 rfl) ?_
  refine rd_V (As := [.int p1]) (rest := []) (d := 0) caV_SignalTable_222 hx hb hml hown hts hP hK (rX_X11_areCustoms p1) (ci := 11) (q0 := 0) rfl rfl (by decide) rfl hl.1 (Nat.le_of_ble_eq_true rfl) (by decide) dX11_refusal_2 rfl ?_
  refine lv_if_eq (tgt := 18) hx hb dX11_refusal_5 (by decide) (fun c_1 => ?_) (fun c_1 => ?_)
  · skip
    have c_1 := z_if0 c_1
    refine lv_iconst (v := (-1)) hx hb dX11_refusal_18 (by decide) ?_
    exact rd_i hx hb hr hlocks (rfl) dX11_refusal_19
  · skip
    have c_1 := z_ifn c_1
    refine lv_aload_n hx hb dX11_refusal_8 rfl (lv_at hl 0 rfl) ?_
    refine va_get (D := D) (ci := 11) (v := .ref (q 11)) (C := RX11) (T := TX11) (N := 14) hx hb hts inX11 hown hK hP 0 rfl rfl 5 (by decide) (hts _ kw_712) (fun _ h9 => h9) rfl dX11_refusal_9 ?_
    refine va_get (D := D) (ci := 3) (v := .int (-2)) (C := RX3) (T := TX3) (N := 18) hx hb hts inX3 hown hK hP 11 rfl rfl 6 (by decide) (hts _ kw_437) (fun _ h9 => h9) rfl dX11_refusal_12 ?_
    refine lv_if_ge (tgt := 20) hx hb dX11_refusal_15 (by decide) (fun h => absurd h (by decide)) (fun _ => ?_)
    refine lv_iconst (v := (-1)) hx hb dX11_refusal_18 (by decide) ?_
    exact rd_i hx hb hr hlocks (rfl) dX11_refusal_19
set_option maxHeartbeats 4000000 in
set_option maxRecDepth 100000 in
theorem rX_X11_canGain {l : Launch} {D : va_G} {q : Nat → Nat} {k : Nat → ClassId} {g : Nat → Nat → Int32} {gl : Nat → Nat → Int64} (p1 : Int32) : Rd l yX11_canGain cX11_canGain 2 (some .boolean) 0 D (wX q k g gl) (tyX k) [.ref (q 0), .int p1] (.int 0) := by
  refine Rd.of (by decide) (Nat.le_of_ble_eq_true rfl) ?_
  intro p e s m below meth c ls hx hb hr hml hown hts hlocks hP hK hl
  have hown : s.vm.findClass "SignalTable" = some m.cls := hown
  have hl : lv_has ls 2 [(0, .ref (q 0)), (1, .int p1)] := hl
  refine lv_iload_n hx hb dX11_canGain_0 rfl (lv_at hl 1 rfl) ?_
  refine lv_iconst (v := 1) hx hb dX11_canGain_1 (by decide) ?_
  refine lv_icmp_lt (tgt := 27) hx hb dX11_canGain_2 (by decide) (fun c_1 => ?_) (fun c_1 => ?_)
  · skip
    refine lv_iconst (v := 0) hx hb dX11_canGain_27 (by decide) ?_
    exact rd_z hx hb hr hlocks rfl (rfl) dX11_canGain_28
  · skip
    refine lv_iload_n hx hb dX11_canGain_5 rfl (lv_at hl 1 rfl) ?_
    refine lv_bipush (v := 20) hx hb dX11_canGain_6 (by decide) ?_
    refine lv_icmp_gt (tgt := 27) hx hb dX11_canGain_8 (by decide) (fun c_2 => ?_) (fun c_2 => ?_)
    · skip
      refine lv_iconst (v := 0) hx hb dX11_canGain_27 (by decide) ?_
      exact rd_z hx hb hr hlocks rfl (rfl) dX11_canGain_28
    · skip
      refine lv_aload_n hx hb dX11_canGain_11 rfl (lv_at hl 0 rfl) ?_
      refine va_get (D := D) (ci := 11) (v := .ref (q 2)) (C := RX11) (T := TX11) (N := 14) hx hb hts inX11 hown hK hP 0 rfl rfl 2 (by decide) (hts _ kw_709) (fun _ h9 => h9) rfl dX11_canGain_12 ?_
      refine va_get (D := D) (ci := 5) (v := .int 16) (C := RX5) (T := TX5) (N := 16) hx hb hts inX5 hown hK hP 2 rfl rfl 10 (by decide) (hts _ kw_225) (fun _ h9 => h9) rfl dX11_canGain_15 ?_
      refine lv_bipush (v := 8) hx hb dX11_canGain_18 (by decide) ?_
      refine lv_icmp_ne (tgt := 27) hx hb dX11_canGain_20 (by decide) (fun _ => ?_) (fun h => absurd h (by decide))
      refine lv_iconst (v := 0) hx hb dX11_canGain_27 (by decide) ?_
      exact rd_z hx hb hr hlocks rfl (rfl) dX11_canGain_28
set_option maxHeartbeats 4000000 in
set_option maxRecDepth 100000 in
theorem rX_X11_slotsInUse {l : Launch} {D : va_G} {q : Nat → Nat} {k : Nat → ClassId} {g : Nat → Nat → Int32} {gl : Nat → Nat → Int64} : Rd l yX11_slotsInUse cX11_slotsInUse 3 (some .int) 0 D (wX q k g gl) (tyX k) [.ref (q 0)] (.int 0) := by
  refine Rd.of (by decide) (Nat.le_of_ble_eq_true rfl) ?_
  intro p e s m below meth c ls hx hb hr hml hown hts hlocks hP hK hl
  have hown : s.vm.findClass "SignalTable" = some m.cls := hown
  have hl : lv_has ls 3 [(0, .ref (q 0))] := hl
  refine lv_iconst (v := 0) hx hb dX11_slotsInUse_0 (by decide) ?_
  refine lv_istore_n (lv' := [(1, .int 0), (0, .ref (q 0))]) hx hb dX11_slotsInUse_1 rfl hl (by decide) rfl (fun ls hl => ?_)
  refine lv_iconst (v := 0) hx hb dX11_slotsInUse_2 (by decide) ?_
  refine lv_istore_n (lv' := [(2, .int 0), (1, .int 0), (0, .ref (q 0))]) hx hb dX11_slotsInUse_3 rfl hl (by decide) rfl (fun ls hl => ?_)
  refine lv_iload_n hx hb dX11_slotsInUse_4 rfl (lv_at hl 0 rfl) ?_
  refine lv_iconst (v := 2) hx hb dX11_slotsInUse_5 (by decide) ?_
  refine lv_icmp_ge (tgt := 35) hx hb dX11_slotsInUse_6 (by decide) (fun h => absurd h (by decide)) (fun _ => ?_)
  refine lv_iload_n hx hb dX11_slotsInUse_9 rfl (lv_at hl 1 rfl) ?_
  refine lv_aload_n hx hb dX11_slotsInUse_10 rfl (lv_at hl 2 rfl) ?_
  refine va_get (D := D) (ci := 11) (v := .ref (q 16)) (C := RX11) (T := TX11) (N := 14) hx hb hts inX11 hown hK hP 0 rfl rfl 7 (by decide) (hts _ kw_714) (fun _ h9 => h9) rfl dX11_slotsInUse_11 ?_
  refine lv_iload_n hx hb dX11_slotsInUse_14 rfl (lv_at hl 0 rfl) ?_
  refine va_aldq hx hb hK hP 16 10 rfl rfl (z_in (by decide)) dX11_slotsInUse_15 ?_
  refine z_v (v := .ref (q 17)) (by rfl) ?_
  refine va_get (D := D) (ci := 3) (v := .int 0) (C := RX3) (T := TX3) (N := 18) hx hb hts inX3 hown hK hP 17 rfl rfl 2 (by decide) (hts _ kw_423) (fun _ h9 => h9) rfl dX11_slotsInUse_16 ?_
  refine lv_if_eq (tgt := 26) hx hb dX11_slotsInUse_19 (by decide) (fun _ => ?_) (fun h => absurd (by decide) h)
  refine lv_iconst (v := 0) hx hb dX11_slotsInUse_26 (by decide) ?_
  refine lv_iadd hx hb dX11_slotsInUse_27 ?_
  refine z_i (v := 0) (by decide) ?_
  refine lv_istore_n (lv' := [(1, .int 0), (2, .int 0), (0, .ref (q 0))]) hx hb dX11_slotsInUse_28 rfl hl (by decide) rfl (fun ls hl => ?_)
  refine lv_iinc (v := 1) (lv' := [(2, .int 1), (1, .int 0), (0, .ref (q 0))]) hx hb dX11_slotsInUse_29 hl (k := 1) rfl (by decide) (by decide) rfl (fun ls hl => ?_)
  refine lv_goto (tgt := 4) hx hb dX11_slotsInUse_32 (by decide) ?_
  refine lv_iload_n hx hb dX11_slotsInUse_4 rfl (lv_at hl 0 rfl) ?_
  refine lv_iconst (v := 2) hx hb dX11_slotsInUse_5 (by decide) ?_
  refine lv_icmp_ge (tgt := 35) hx hb dX11_slotsInUse_6 (by decide) (fun h => absurd h (by decide)) (fun _ => ?_)
  refine lv_iload_n hx hb dX11_slotsInUse_9 rfl (lv_at hl 1 rfl) ?_
  refine lv_aload_n hx hb dX11_slotsInUse_10 rfl (lv_at hl 2 rfl) ?_
  refine va_get (D := D) (ci := 11) (v := .ref (q 16)) (C := RX11) (T := TX11) (N := 14) hx hb hts inX11 hown hK hP 0 rfl rfl 7 (by decide) (hts _ kw_714) (fun _ h9 => h9) rfl dX11_slotsInUse_11 ?_
  refine lv_iload_n hx hb dX11_slotsInUse_14 rfl (lv_at hl 0 rfl) ?_
  refine va_aldq hx hb hK hP 16 10 rfl rfl (z_in (by decide)) dX11_slotsInUse_15 ?_
  refine z_v (v := .ref (q 18)) (by rfl) ?_
  refine va_get (D := D) (ci := 3) (v := .int 0) (C := RX3) (T := TX3) (N := 18) hx hb hts inX3 hown hK hP 18 rfl rfl 2 (by decide) (hts _ kw_423) (fun _ h9 => h9) rfl dX11_slotsInUse_16 ?_
  refine lv_if_eq (tgt := 26) hx hb dX11_slotsInUse_19 (by decide) (fun _ => ?_) (fun h => absurd (by decide) h)
  refine lv_iconst (v := 0) hx hb dX11_slotsInUse_26 (by decide) ?_
  refine lv_iadd hx hb dX11_slotsInUse_27 ?_
  refine z_i (v := 0) (by decide) ?_
  refine lv_istore_n (lv' := [(1, .int 0), (2, .int 1), (0, .ref (q 0))]) hx hb dX11_slotsInUse_28 rfl hl (by decide) rfl (fun ls hl => ?_)
  refine lv_iinc (v := 2) (lv' := [(2, .int 2), (1, .int 0), (0, .ref (q 0))]) hx hb dX11_slotsInUse_29 hl (k := 1) rfl (by decide) (by decide) rfl (fun ls hl => ?_)
  refine lv_goto (tgt := 4) hx hb dX11_slotsInUse_32 (by decide) ?_
  refine lv_iload_n hx hb dX11_slotsInUse_4 rfl (lv_at hl 0 rfl) ?_
  refine lv_iconst (v := 2) hx hb dX11_slotsInUse_5 (by decide) ?_
  refine lv_icmp_ge (tgt := 35) hx hb dX11_slotsInUse_6 (by decide) (fun _ => ?_) (fun h => absurd (by decide) h)
  refine lv_iload_n hx hb dX11_slotsInUse_35 rfl (lv_at hl 1 rfl) ?_
  exact rd_i hx hb hr hlocks (rfl) dX11_slotsInUse_36
set_option maxHeartbeats 4000000 in
set_option maxRecDepth 100000 in
theorem rX_X11_place {l : Launch} {D : va_G} {q : Nat → Nat} {k : Nat → ClassId} {g : Nat → Nat → Int32} {gl : Nat → Nat → Int64} : Rd l yX11_place cX11_place 1 (some .int) 0 D (wX q k g gl) (tyX k) [.ref (q 0)] (.int (-1)) := by
  refine Rd.of (by decide) (Nat.le_of_ble_eq_true rfl) ?_
  intro p e s m below meth c ls hx hb hr hml hown hts hlocks hP hK hl
  have hown : s.vm.findClass "SignalTable" = some m.cls := hown
  have hl : lv_has ls 1 [(0, .ref (q 0))] := hl
  refine lv_aload_n hx hb dX11_place_0 rfl (lv_at hl 0 rfl) ?_
  refine va_get (D := D) (ci := 11) (v := .ref (q 6)) (C := RX11) (T := TX11) (N := 14) hx hb hts inX11 hown hK hP 0 rfl rfl 4 (by decide) (hts _ kw_711) (fun _ h9 => h9) rfl dX11_place_1 ?_
  refine va_get (D := D) (ci := 8) (v := .int (-1)) (C := RX8) (T := TX8) (N := 11) hx hb hts inX8 hown hK hP 6 rfl rfl 8 (by decide) (hts _ kw_388) (fun _ h9 => h9) rfl dX11_place_4 ?_
  exact rd_i hx hb hr hlocks (rfl) dX11_place_7
set_option maxHeartbeats 4000000 in
set_option maxRecDepth 100000 in
theorem rX_X11_lead {l : Launch} {D : va_G} {q : Nat → Nat} {k : Nat → ClassId} {g : Nat → Nat → Int32} {gl : Nat → Nat → Int64} (p1 : Int32) : Rd l yX11_lead cX11_lead 2 (some .boolean) 0 D (wX q k g gl) (tyX k) [.ref (q 0), .int p1] (.int 0) := by
  refine Rd.of (by decide) (Nat.le_of_ble_eq_true rfl) ?_
  intro p e s m below meth c ls hx hb hr hml hown hts hlocks hP hK hl
  have hown : s.vm.findClass "SignalTable" = some m.cls := hown
  have hl : lv_has ls 2 [(0, .ref (q 0)), (1, .int p1)] := hl
  refine lv_aload_n hx hb dX11_lead_0 rfl (lv_at hl 0 rfl) ?_
  refine va_get (D := D) (ci := 11) (v := .ref (q 11)) (C := RX11) (T := TX11) (N := 14) hx hb hts inX11 hown hK hP 0 rfl rfl 5 (by decide) (hts _ kw_712) (fun _ h9 => h9) rfl dX11_lead_1 ?_
  refine va_get (D := D) (ci := 3) (v := .int 0) (C := RX3) (T := TX3) (N := 18) hx hb hts inX3 hown hK hP 11 rfl rfl 2 (by decide) (hts _ kw_423) (fun _ h9 => h9) rfl dX11_lead_4 ?_
  refine lv_if_eq (tgt := 28) hx hb dX11_lead_7 (by decide) (fun _ => ?_) (fun h => absurd (by decide) h)
  refine lv_iconst (v := 0) hx hb dX11_lead_28 (by decide) ?_
  exact rd_z hx hb hr hlocks rfl (rfl) dX11_lead_29
set_option maxHeartbeats 4000000 in
set_option maxRecDepth 100000 in
theorem rX_X11_hand {l : Launch} {D : va_G} {q : Nat → Nat} {k : Nat → ClassId} {g : Nat → Nat → Int32} {gl : Nat → Nat → Int64} (p1 p2 : Int32) : Rd l yX11_hand cX11_hand 3 (some .int) 0 D (wX q k g gl) (tyX k) [.ref (q 0), .int p1, .int p2] (.int (-1)) := by
  refine Rd.of (by decide) (Nat.le_of_ble_eq_true rfl) ?_
  intro p e s m below meth c ls hx hb hr hml hown hts hlocks hP hK hl
  have hown : s.vm.findClass "SignalTable" = some m.cls := hown
  have hl : lv_has ls 3 [(0, .ref (q 0)), (1, .int p1), (2, .int p2)] := hl
  refine lv_aload_n hx hb dX11_hand_0 rfl (lv_at hl 0 rfl) ?_
  refine va_get (D := D) (ci := 11) (v := .ref (q 11)) (C := RX11) (T := TX11) (N := 14) hx hb hts inX11 hown hK hP 0 rfl rfl 5 (by decide) (hts _ kw_712) (fun _ h9 => h9) rfl dX11_hand_1 ?_
  refine va_get (D := D) (ci := 3) (v := .int 0) (C := RX3) (T := TX3) (N := 18) hx hb hts inX3 hown hK hP 11 rfl rfl 2 (by decide) (hts _ kw_423) (fun _ h9 => h9) rfl dX11_hand_4 ?_
  refine lv_if_eq (tgt := 18) hx hb dX11_hand_7 (by decide) (fun _ => ?_) (fun h => absurd (by decide) h)
  refine lv_iconst (v := (-1)) hx hb dX11_hand_18 (by decide) ?_
  exact rd_i hx hb hr hlocks (rfl) dX11_hand_19
set_option maxHeartbeats 4000000 in
set_option maxRecDepth 100000 in
theorem rX_X11_turn {l : Launch} {D : va_G} {q : Nat → Nat} {k : Nat → ClassId} {g : Nat → Nat → Int32} {gl : Nat → Nat → Int64} : Rd l yX11_turn cX11_turn 1 (some .int) 0 D (wX q k g gl) (tyX k) [.ref (q 0)] (.int (-2)) := by
  refine Rd.of (by decide) (Nat.le_of_ble_eq_true rfl) ?_
  intro p e s m below meth c ls hx hb hr hml hown hts hlocks hP hK hl
  have hown : s.vm.findClass "SignalTable" = some m.cls := hown
  have hl : lv_has ls 1 [(0, .ref (q 0))] := hl
  refine lv_aload_n hx hb dX11_turn_0 rfl (lv_at hl 0 rfl) ?_
  refine va_get (D := D) (ci := 11) (v := .ref (q 11)) (C := RX11) (T := TX11) (N := 14) hx hb hts inX11 hown hK hP 0 rfl rfl 5 (by decide) (hts _ kw_712) (fun _ h9 => h9) rfl dX11_turn_1 ?_
  refine va_get (D := D) (ci := 3) (v := .int (-2)) (C := RX3) (T := TX3) (N := 18) hx hb hts inX3 hown hK hP 11 rfl rfl 6 (by decide) (hts _ kw_437) (fun _ h9 => h9) rfl dX11_turn_4 ?_
  exact rd_i hx hb hr hlocks (rfl) dX11_turn_7
set_option maxHeartbeats 4000000 in
set_option maxRecDepth 100000 in
theorem rX_X11_may {l : Launch} {D : va_G} {q : Nat → Nat} {k : Nat → ClassId} {g : Nat → Nat → Int32} {gl : Nat → Nat → Int64} : Rd l yX11_may cX11_may 1 (some .int) 1 D (wX q k g gl) (tyX k) [.ref (q 0)] (.int 0) := by
  refine Rd.of (by decide) (Nat.le_of_ble_eq_true rfl) ?_
  intro p e s m below meth c ls hx hb hr hml hown hts hlocks hP hK hl
  have hown : s.vm.findClass "SignalTable" = some m.cls := hown
  have hl : lv_has ls 1 [(0, .ref (q 0))] := hl
  refine lv_aload_n hx hb dX11_may_0 rfl (lv_at hl 0 rfl) ?_
  refine va_get (D := D) (ci := 11) (v := .ref (q 11)) (C := RX11) (T := TX11) (N := 14) hx hb hts inX11 hown hK hP 0 rfl rfl 5 (by decide) (hts _ kw_712) (fun _ h9 => h9) rfl dX11_may_1 ?_
  refine rd_V (As := []) (rest := []) (d := 0) caV_SignalTable_180 hx hb hml hown hts hP hK (rX_X3_legal) (ci := 3) (q0 := 11) rfl rfl (by decide) rfl hl.1 (Nat.le_of_ble_eq_true rfl) (by decide) dX11_may_4 rfl ?_
  exact rd_i hx hb hr hlocks (rfl) dX11_may_7
set_option maxHeartbeats 4000000 in
set_option maxRecDepth 100000 in
theorem rX_X11_play {l : Launch} {D : va_G} {q : Nat → Nat} {k : Nat → ClassId} {g : Nat → Nat → Int32} {gl : Nat → Nat → Int64} (p1 : Int32) : Rd l yX11_play cX11_play 2 (some .int) 1 D (wX q k g gl) (tyX k) [.ref (q 0), .int p1] (.int (-1)) := by
  refine Rd.of (by decide) (Nat.le_of_ble_eq_true rfl) ?_
  intro p e s m below meth c ls hx hb hr hml hown hts hlocks hP hK hl
  have hown : s.vm.findClass "SignalTable" = some m.cls := hown
  have hl : lv_has ls 2 [(0, .ref (q 0)), (1, .int p1)] := hl
  refine lv_aload_n hx hb dX11_play_0 rfl (lv_at hl 0 rfl) ?_
  refine lv_iload_n hx hb dX11_play_1 rfl (lv_at hl 1 rfl) ?_
  refine rd_V (As := [.int p1]) (rest := []) (d := 0) caV_SignalTable_183 hx hb hml hown hts hP hK (rX_X11_isInHand p1) (ci := 11) (q0 := 0) rfl rfl (by decide) rfl hl.1 (Nat.le_of_ble_eq_true rfl) (by decide) dX11_play_2 rfl ?_
  refine lv_if_ne (tgt := 10) hx hb dX11_play_5 (by decide) (fun h => absurd (by decide) h) (fun _ => ?_)
  refine lv_iconst (v := (-1)) hx hb dX11_play_8 (by decide) ?_
  exact rd_i hx hb hr hlocks (rfl) dX11_play_9
set_option maxHeartbeats 4000000 in
set_option maxRecDepth 100000 in
theorem rX_X11_revoke {l : Launch} {D : va_G} {q : Nat → Nat} {k : Nat → ClassId} {g : Nat → Nat → Int32} {gl : Nat → Nat → Int64} (p1 : Int32) : Rd l yX11_revoke cX11_revoke 2 (some .int) 1 D (wX q k g gl) (tyX k) [.ref (q 0), .int p1] (.int (-1)) := by
  refine Rd.of (by decide) (Nat.le_of_ble_eq_true rfl) ?_
  intro p e s m below meth c ls hx hb hr hml hown hts hlocks hP hK hl
  have hown : s.vm.findClass "SignalTable" = some m.cls := hown
  have hl : lv_has ls 2 [(0, .ref (q 0)), (1, .int p1)] := hl
  refine lv_aload_n hx hb dX11_revoke_0 rfl (lv_at hl 0 rfl) ?_
  refine lv_iload_n hx hb dX11_revoke_1 rfl (lv_at hl 1 rfl) ?_
  refine rd_V (As := [.int p1]) (rest := []) (d := 0) caV_SignalTable_183 hx hb hml hown hts hP hK (rX_X11_isInHand p1) (ci := 11) (q0 := 0) rfl rfl (by decide) rfl hl.1 (Nat.le_of_ble_eq_true rfl) (by decide) dX11_revoke_2 rfl ?_
  refine lv_if_ne (tgt := 10) hx hb dX11_revoke_5 (by decide) (fun h => absurd (by decide) h) (fun _ => ?_)
  refine lv_iconst (v := (-1)) hx hb dX11_revoke_8 (by decide) ?_
  exact rd_i hx hb hr hlocks (rfl) dX11_revoke_9
set_option maxHeartbeats 4000000 in
set_option maxRecDepth 100000 in
theorem rX_X11_undo {l : Launch} {D : va_G} {q : Nat → Nat} {k : Nat → ClassId} {g : Nat → Nat → Int32} {gl : Nat → Nat → Int64} : Rd l yX11_undo cX11_undo 1 (some .int) 0 D (wX q k g gl) (tyX k) [.ref (q 0)] (.int (-1)) := by
  refine Rd.of (by decide) (Nat.le_of_ble_eq_true rfl) ?_
  intro p e s m below meth c ls hx hb hr hml hown hts hlocks hP hK hl
  have hown : s.vm.findClass "SignalTable" = some m.cls := hown
  have hl : lv_has ls 1 [(0, .ref (q 0))] := hl
  refine lv_aload_n hx hb dX11_undo_0 rfl (lv_at hl 0 rfl) ?_
  refine va_get (D := D) (ci := 11) (v := .ref (q 11)) (C := RX11) (T := TX11) (N := 14) hx hb hts inX11 hown hK hP 0 rfl rfl 5 (by decide) (hts _ kw_712) (fun _ h9 => h9) rfl dX11_undo_1 ?_
  refine va_get (D := D) (ci := 3) (v := .int 0) (C := RX3) (T := TX3) (N := 18) hx hb hts inX3 hown hK hP 11 rfl rfl 7 (by decide) (hts _ kw_443) (fun _ h9 => h9) rfl dX11_undo_4 ?_
  refine lv_if_ne (tgt := 12) hx hb dX11_undo_7 (by decide) (fun h => absurd (by decide) h) (fun _ => ?_)
  refine lv_iconst (v := (-1)) hx hb dX11_undo_10 (by decide) ?_
  exact rd_i hx hb hr hlocks (rfl) dX11_undo_11
set_option maxHeartbeats 4000000 in
set_option maxRecDepth 100000 in
theorem rX_X11_card {l : Launch} {D : va_G} {q : Nat → Nat} {k : Nat → ClassId} {g : Nat → Nat → Int32} {gl : Nat → Nat → Int64} (p1 p2 : Int32) : Rd l yX11_card cX11_card 3 (some .int) 0 D (wX q k g gl) (tyX k) [.ref (q 0), .int p1, .int p2] (.int (-1)) := by
  refine Rd.of (by decide) (Nat.le_of_ble_eq_true rfl) ?_
  intro p e s m below meth c ls hx hb hr hml hown hts hlocks hP hK hl
  have hown : s.vm.findClass "SignalTable" = some m.cls := hown
  have hl : lv_has ls 3 [(0, .ref (q 0)), (1, .int p1), (2, .int p2)] := hl
  refine lv_iload_n hx hb dX11_card_0 rfl (lv_at hl 1 rfl) ?_
  refine lv_if_lt (tgt := 15) hx hb dX11_card_1 (by decide) (fun c_1 => ?_) (fun c_1 => ?_)
  · skip
    refine lv_iconst (v := (-1)) hx hb dX11_card_15 (by decide) ?_
    exact rd_i hx hb hr hlocks (rfl) dX11_card_16
  · skip
    refine lv_iload_n hx hb dX11_card_4 rfl (lv_at hl 1 rfl) ?_
    refine lv_aload_n hx hb dX11_card_5 rfl (lv_at hl 0 rfl) ?_
    refine va_get (D := D) (ci := 11) (v := .ref (q 11)) (C := RX11) (T := TX11) (N := 14) hx hb hts inX11 hown hK hP 0 rfl rfl 5 (by decide) (hts _ kw_712) (fun _ h9 => h9) rfl dX11_card_6 ?_
    refine va_get (D := D) (ci := 3) (v := .int 0) (C := RX3) (T := TX3) (N := 18) hx hb hts inX3 hown hK hP 11 rfl rfl 7 (by decide) (hts _ kw_443) (fun _ h9 => h9) rfl dX11_card_9 ?_
    refine lv_icmp_lt (tgt := 17) hx hb dX11_card_12 (by decide) (fun c_2 => ?_) (fun c_2 => ?_)
    · skip
      exfalso
      simp only [Int32.lt_iff_toInt_lt, Int32.le_iff_toInt_le, ← Int32.toInt_inj, ti_m2, ti_m1, ti_0, ti_1, ti_2, ti_3, ti_4, ti_5, ti_6, ti_7, ti_8, ti_10, ti_20] at c_1 c_2 <;> omega
    · skip
      refine lv_iconst (v := (-1)) hx hb dX11_card_15 (by decide) ?_
      exact rd_i hx hb hr hlocks (rfl) dX11_card_16
set_option maxHeartbeats 4000000 in
set_option maxRecDepth 100000 in
theorem rX_X11_tricks {l : Launch} {D : va_G} {q : Nat → Nat} {k : Nat → ClassId} {g : Nat → Nat → Int32} {gl : Nat → Nat → Int64} (p1 : Int32) : Rd l yX11_tricks cX11_tricks 2 (some .int) 1 D (wX q k g gl) (tyX k) [.ref (q 0), .int p1] (.int (if 0 ≤ p1 ∧ p1 ≤ 1 then 0 else (-1))) := by
  refine Rd.of (by decide) (Nat.le_of_ble_eq_true rfl) ?_
  intro p e s m below meth c ls hx hb hr hml hown hts hlocks hP hK hl
  have hown : s.vm.findClass "SignalTable" = some m.cls := hown
  have hl : lv_has ls 2 [(0, .ref (q 0)), (1, .int p1)] := hl
  refine lv_iload_n hx hb dX11_tricks_0 rfl (lv_at hl 1 rfl) ?_
  refine lv_if_lt (tgt := 9) hx hb dX11_tricks_1 (by decide) (fun c_1 => ?_) (fun c_1 => ?_)
  · skip
    refine lv_iconst (v := (-1)) hx hb dX11_tricks_9 (by decide) ?_
    refine lv_goto (tgt := 21) hx hb dX11_tricks_10 (by decide) ?_
    exact rd_i hx hb hr hlocks (congrArg Value.int (by by_cases s_1 : 0 ≤ p1 ∧ p1 ≤ 1 <;> simp only [s_1, if_true, if_false, and_self, not_false_eq_true, not_true_eq_false] <;> first | rfl | (exfalso; simp only [Int32.lt_iff_toInt_lt, Int32.le_iff_toInt_le, ← Int32.toInt_inj, ti_m2, ti_m1, ti_0, ti_1, ti_2, ti_3, ti_4, ti_5, ti_6, ti_7, ti_8, ti_10, ti_20] at s_1 c_1 <;> omega))) dX11_tricks_21
  · skip
    refine lv_iload_n hx hb dX11_tricks_4 rfl (lv_at hl 1 rfl) ?_
    refine lv_iconst (v := 1) hx hb dX11_tricks_5 (by decide) ?_
    refine lv_icmp_le (tgt := 13) hx hb dX11_tricks_6 (by decide) (fun c_2 => ?_) (fun c_2 => ?_)
    · skip
      refine lv_aload_n hx hb dX11_tricks_13 rfl (lv_at hl 0 rfl) ?_
      refine va_get (D := D) (ci := 11) (v := .ref (q 11)) (C := RX11) (T := TX11) (N := 14) hx hb hts inX11 hown hK hP 0 rfl rfl 5 (by decide) (hts _ kw_712) (fun _ h9 => h9) rfl dX11_tricks_14 ?_
      refine lv_iload_n hx hb dX11_tricks_17 rfl (lv_at hl 1 rfl) ?_
      refine rd_V (As := [.int p1]) (rest := []) (d := 0) caV_SignalTable_210 hx hb hml hown hts hP hK (rX_X3_wonBy p1) (ci := 3) (q0 := 11) rfl rfl (by decide) rfl hl.1 (Nat.le_of_ble_eq_true rfl) (by decide) dX11_tricks_18 rfl ?_
      exact rd_i hx hb hr hlocks (congrArg Value.int (by by_cases s_1 : 0 ≤ p1 ∧ p1 ≤ 1 <;> simp only [s_1, if_true, if_false, and_self, not_false_eq_true, not_true_eq_false] <;> first | rfl | (exfalso; simp only [Int32.lt_iff_toInt_lt, Int32.le_iff_toInt_le, ← Int32.toInt_inj, ti_m2, ti_m1, ti_0, ti_1, ti_2, ti_3, ti_4, ti_5, ti_6, ti_7, ti_8, ti_10, ti_20] at s_1 c_1 c_2 <;> omega))) dX11_tricks_21
    · skip
      refine lv_iconst (v := (-1)) hx hb dX11_tricks_9 (by decide) ?_
      refine lv_goto (tgt := 21) hx hb dX11_tricks_10 (by decide) ?_
      exact rd_i hx hb hr hlocks (congrArg Value.int (by by_cases s_1 : 0 ≤ p1 ∧ p1 ≤ 1 <;> simp only [s_1, if_true, if_false, and_self, not_false_eq_true, not_true_eq_false] <;> first | rfl | (exfalso; simp only [Int32.lt_iff_toInt_lt, Int32.le_iff_toInt_le, ← Int32.toInt_inj, ti_m2, ti_m1, ti_0, ti_1, ti_2, ti_3, ti_4, ti_5, ti_6, ti_7, ti_8, ti_10, ti_20] at s_1 c_1 c_2 <;> omega))) dX11_tricks_21
set_option maxHeartbeats 4000000 in
set_option maxRecDepth 100000 in
theorem rX_X11_winner {l : Launch} {D : va_G} {q : Nat → Nat} {k : Nat → ClassId} {g : Nat → Nat → Int32} {gl : Nat → Nat → Int64} (p1 : Int32) : Rd l yX11_winner cX11_winner 2 (some .int) 0 D (wX q k g gl) (tyX k) [.ref (q 0), .int p1] (.int (-1)) := by
  refine Rd.of (by decide) (Nat.le_of_ble_eq_true rfl) ?_
  intro p e s m below meth c ls hx hb hr hml hown hts hlocks hP hK hl
  have hown : s.vm.findClass "SignalTable" = some m.cls := hown
  have hl : lv_has ls 2 [(0, .ref (q 0)), (1, .int p1)] := hl
  refine lv_iload_n hx hb dX11_winner_0 rfl (lv_at hl 1 rfl) ?_
  refine lv_if_lt (tgt := 17) hx hb dX11_winner_1 (by decide) (fun c_1 => ?_) (fun c_1 => ?_)
  · skip
    refine lv_iconst (v := (-1)) hx hb dX11_winner_17 (by decide) ?_
    refine lv_goto (tgt := 30) hx hb dX11_winner_18 (by decide) ?_
    exact rd_i hx hb hr hlocks (rfl) dX11_winner_30
  · skip
    refine lv_iload_n hx hb dX11_winner_4 rfl (lv_at hl 1 rfl) ?_
    refine lv_aload_n hx hb dX11_winner_5 rfl (lv_at hl 0 rfl) ?_
    refine va_get (D := D) (ci := 11) (v := .ref (q 11)) (C := RX11) (T := TX11) (N := 14) hx hb hts inX11 hown hK hP 0 rfl rfl 5 (by decide) (hts _ kw_712) (fun _ h9 => h9) rfl dX11_winner_6 ?_
    refine va_get (D := D) (ci := 3) (v := .int 0) (C := RX3) (T := TX3) (N := 18) hx hb hts inX3 hown hK hP 11 rfl rfl 7 (by decide) (hts _ kw_443) (fun _ h9 => h9) rfl dX11_winner_9 ?_
    refine lv_iconst (v := 4) hx hb dX11_winner_12 (by decide) ?_
    refine lv_idiv hx hb dX11_winner_13 (by decide) ?_
    refine z_i (v := 0) (by decide) ?_
    refine lv_icmp_lt (tgt := 21) hx hb dX11_winner_14 (by decide) (fun c_2 => ?_) (fun c_2 => ?_)
    · skip
      exfalso
      simp only [Int32.lt_iff_toInt_lt, Int32.le_iff_toInt_le, ← Int32.toInt_inj, ti_m2, ti_m1, ti_0, ti_1, ti_2, ti_3, ti_4, ti_5, ti_6, ti_7, ti_8, ti_10, ti_20] at c_1 c_2 <;> omega
    · skip
      refine lv_iconst (v := (-1)) hx hb dX11_winner_17 (by decide) ?_
      refine lv_goto (tgt := 30) hx hb dX11_winner_18 (by decide) ?_
      exact rd_i hx hb hr hlocks (rfl) dX11_winner_30
set_option maxHeartbeats 4000000 in
set_option maxRecDepth 100000 in
theorem rX_X11_revokes {l : Launch} {D : va_G} {q : Nat → Nat} {k : Nat → ClassId} {g : Nat → Nat → Int32} {gl : Nat → Nat → Int64} (p1 : Int32) : Rd l yX11_revokes cX11_revokes 7 (some .int) 0 D (wX q k g gl) (tyX k) [.ref (q 0), .int p1] (.int (if 0 ≤ p1 ∧ p1 ≤ 1 then 0 else if p1 = 2 then -2 else -1)) := by
  refine Rd.of (by decide) (Nat.le_of_ble_eq_true rfl) ?_
  intro p e s m below meth c ls hx hb hr hml hown hts hlocks hP hK hl
  have hown : s.vm.findClass "SignalTable" = some m.cls := hown
  have hl : lv_has ls 7 [(0, .ref (q 0)), (1, .int p1)] := hl
  refine lv_iload_n hx hb dX11_revokes_0 rfl (lv_at hl 1 rfl) ?_
  refine lv_if_lt (tgt := 9) hx hb dX11_revokes_1 (by decide) (fun c_1 => ?_) (fun c_1 => ?_)
  · skip
    refine lv_iconst (v := (-1)) hx hb dX11_revokes_9 (by decide) ?_
    exact rd_i hx hb hr hlocks (congrArg Value.int (by by_cases s_1 : 0 ≤ p1 ∧ p1 ≤ 1 <;> by_cases s_2 : p1 = 2 <;> simp only [s_1, s_2, if_true, if_false, and_self, not_false_eq_true, not_true_eq_false] <;> first | rfl | (exfalso; simp only [Int32.lt_iff_toInt_lt, Int32.le_iff_toInt_le, ← Int32.toInt_inj, ti_m2, ti_m1, ti_0, ti_1, ti_2, ti_3, ti_4, ti_5, ti_6, ti_7, ti_8, ti_10, ti_20] at s_1 s_2 c_1 <;> omega))) dX11_revokes_10
  · skip
    refine lv_iload_n hx hb dX11_revokes_4 rfl (lv_at hl 1 rfl) ?_
    refine lv_iconst (v := 2) hx hb dX11_revokes_5 (by decide) ?_
    refine lv_icmp_le (tgt := 11) hx hb dX11_revokes_6 (by decide) (fun c_2 => ?_) (fun c_2 => ?_)
    · skip
      refine lv_iconst (v := 0) hx hb dX11_revokes_11 (by decide) ?_
      refine lv_istore_n (lv' := [(2, .int 0), (0, .ref (q 0)), (1, .int p1)]) hx hb dX11_revokes_12 rfl hl (by decide) rfl (fun ls hl => ?_)
      refine lv_iconst (v := 0) hx hb dX11_revokes_13 (by decide) ?_
      refine lv_istore_n (lv' := [(3, .int 0), (2, .int 0), (0, .ref (q 0)), (1, .int p1)]) hx hb dX11_revokes_14 rfl hl (by decide) rfl (fun ls hl => ?_)
      refine lv_bipush (v := 16) hx hb dX11_revokes_15 (by decide) ?_
      refine lv_istore (lv' := [(4, .int 16), (3, .int 0), (2, .int 0), (0, .ref (q 0)), (1, .int p1)]) hx hb dX11_revokes_17 hl (by decide) rfl (fun ls hl => ?_)
      refine lv_iconst (v := 0) hx hb dX11_revokes_19 (by decide) ?_
      refine lv_istore (lv' := [(5, .int 0), (4, .int 16), (3, .int 0), (2, .int 0), (0, .ref (q 0)), (1, .int p1)]) hx hb dX11_revokes_20 hl (by decide) rfl (fun ls hl => ?_)
      refine lv_iload hx hb dX11_revokes_22 (lv_at hl 0 rfl) ?_
      refine lv_aload_n hx hb dX11_revokes_24 rfl (lv_at hl 4 rfl) ?_
      refine va_get (D := D) (ci := 11) (v := .ref (q 11)) (C := RX11) (T := TX11) (N := 14) hx hb hts inX11 hown hK hP 0 rfl rfl 5 (by decide) (hts _ kw_712) (fun _ h9 => h9) rfl dX11_revokes_25 ?_
      refine va_get (D := D) (ci := 3) (v := .int 0) (C := RX3) (T := TX3) (N := 18) hx hb hts inX3 hown hK hP 11 rfl rfl 7 (by decide) (hts _ kw_443) (fun _ h9 => h9) rfl dX11_revokes_28 ?_
      refine lv_icmp_ge (tgt := 83) hx hb dX11_revokes_31 (by decide) (fun _ => ?_) (fun h => absurd (by decide) h)
      refine lv_iload_n hx hb dX11_revokes_83 rfl (lv_at hl 5 rfl) ?_
      refine lv_if_ne (tgt := 89) hx hb dX11_revokes_84 (by decide) (fun c_3 => ?_) (fun c_3 => ?_)
      · skip
        refine lv_iload_n hx hb dX11_revokes_89 rfl (lv_at hl 5 rfl) ?_
        refine lv_iconst (v := 1) hx hb dX11_revokes_90 (by decide) ?_
        refine lv_icmp_ne (tgt := 96) hx hb dX11_revokes_91 (by decide) (fun c_4 => ?_) (fun c_4 => ?_)
        · skip
          refine lv_iload_n hx hb dX11_revokes_96 rfl (lv_at hl 2 rfl) ?_
          refine lv_if_ne (tgt := 105) hx hb dX11_revokes_97 (by decide) (fun h => absurd (by decide) h) (fun _ => ?_)
          refine lv_bipush (v := (-2)) hx hb dX11_revokes_100 (by decide) ?_
          refine lv_goto (tgt := 107) hx hb dX11_revokes_102 (by decide) ?_
          exact rd_i hx hb hr hlocks (congrArg Value.int (by by_cases s_1 : 0 ≤ p1 ∧ p1 ≤ 1 <;> by_cases s_2 : p1 = 2 <;> simp only [s_1, s_2, if_true, if_false, and_self, not_false_eq_true, not_true_eq_false] <;> first | rfl | (exfalso; simp only [Int32.lt_iff_toInt_lt, Int32.le_iff_toInt_le, ← Int32.toInt_inj, ti_m2, ti_m1, ti_0, ti_1, ti_2, ti_3, ti_4, ti_5, ti_6, ti_7, ti_8, ti_10, ti_20] at s_1 s_2 c_1 c_2 c_3 c_4 <;> omega))) dX11_revokes_107
        · skip
          refine lv_iload_n hx hb dX11_revokes_94 rfl (lv_at hl 2 rfl) ?_
          exact rd_i hx hb hr hlocks (congrArg Value.int (by by_cases s_1 : 0 ≤ p1 ∧ p1 ≤ 1 <;> by_cases s_2 : p1 = 2 <;> simp only [s_1, s_2, if_true, if_false, and_self, not_false_eq_true, not_true_eq_false] <;> first | rfl | (exfalso; simp only [Int32.lt_iff_toInt_lt, Int32.le_iff_toInt_le, ← Int32.toInt_inj, ti_m2, ti_m1, ti_0, ti_1, ti_2, ti_3, ti_4, ti_5, ti_6, ti_7, ti_8, ti_10, ti_20] at s_1 s_2 c_1 c_2 c_3 c_4 <;> omega))) dX11_revokes_95
      · skip
        refine lv_iload_n hx hb dX11_revokes_87 rfl (lv_at hl 3 rfl) ?_
        exact rd_i hx hb hr hlocks (congrArg Value.int (by by_cases s_1 : 0 ≤ p1 ∧ p1 ≤ 1 <;> by_cases s_2 : p1 = 2 <;> simp only [s_1, s_2, if_true, if_false, and_self, not_false_eq_true, not_true_eq_false] <;> first | rfl | (exfalso; simp only [Int32.lt_iff_toInt_lt, Int32.le_iff_toInt_le, ← Int32.toInt_inj, ti_m2, ti_m1, ti_0, ti_1, ti_2, ti_3, ti_4, ti_5, ti_6, ti_7, ti_8, ti_10, ti_20] at s_1 s_2 c_1 c_2 c_3 <;> omega))) dX11_revokes_88
    · skip
      refine lv_iconst (v := (-1)) hx hb dX11_revokes_9 (by decide) ?_
      exact rd_i hx hb hr hlocks (congrArg Value.int (by by_cases s_1 : 0 ≤ p1 ∧ p1 ≤ 1 <;> by_cases s_2 : p1 = 2 <;> simp only [s_1, s_2, if_true, if_false, and_self, not_false_eq_true, not_true_eq_false] <;> first | rfl | (exfalso; simp only [Int32.lt_iff_toInt_lt, Int32.le_iff_toInt_le, ← Int32.toInt_inj, ti_m2, ti_m1, ti_0, ti_1, ti_2, ti_3, ti_4, ti_5, ti_6, ti_7, ti_8, ti_10, ti_20] at s_1 s_2 c_1 c_2 <;> omega))) dX11_revokes_10
set_option maxHeartbeats 4000000 in
set_option maxRecDepth 100000 in
theorem rX_X11_says {l : Launch} {D : va_G} {q : Nat → Nat} {k : Nat → ClassId} {g : Nat → Nat → Int32} {gl : Nat → Nat → Int64} (p1 p2 p3 : Int32) : Rd l yX11_says cX11_says 4 (some .int) 0 D (wX q k g gl) (tyX k) [.ref (q 0), .int p1, .int p2, .int p3] (.int (-1)) := by
  refine Rd.of (by decide) (Nat.le_of_ble_eq_true rfl) ?_
  intro p e s m below meth c ls hx hb hr hml hown hts hlocks hP hK hl
  have hown : s.vm.findClass "SignalTable" = some m.cls := hown
  have hl : lv_has ls 4 [(0, .ref (q 0)), (1, .int p1), (2, .int p2), (3, .int p3)] := hl
  refine lv_iload_n hx hb dX11_says_0 rfl (lv_at hl 1 rfl) ?_
  refine lv_if_lt (tgt := 32) hx hb dX11_says_1 (by decide) (fun c_1 => ?_) (fun c_1 => ?_)
  · skip
    refine lv_iconst (v := (-1)) hx hb dX11_says_32 (by decide) ?_
    exact rd_i hx hb hr hlocks (rfl) dX11_says_33
  · skip
    refine lv_iload_n hx hb dX11_says_4 rfl (lv_at hl 1 rfl) ?_
    refine lv_aload_n hx hb dX11_says_5 rfl (lv_at hl 0 rfl) ?_
    refine va_get (D := D) (ci := 11) (v := .ref (q 11)) (C := RX11) (T := TX11) (N := 14) hx hb hts inX11 hown hK hP 0 rfl rfl 5 (by decide) (hts _ kw_712) (fun _ h9 => h9) rfl dX11_says_6 ?_
    refine va_get (D := D) (ci := 3) (v := .int 0) (C := RX3) (T := TX3) (N := 18) hx hb hts inX3 hown hK hP 11 rfl rfl 7 (by decide) (hts _ kw_443) (fun _ h9 => h9) rfl dX11_says_9 ?_
    refine lv_icmp_ge (tgt := 32) hx hb dX11_says_12 (by decide) (fun c_2 => ?_) (fun c_2 => ?_)
    · skip
      refine lv_iconst (v := (-1)) hx hb dX11_says_32 (by decide) ?_
      exact rd_i hx hb hr hlocks (rfl) dX11_says_33
    · skip
      exfalso
      simp only [Int32.lt_iff_toInt_lt, Int32.le_iff_toInt_le, ← Int32.toInt_inj, ti_m2, ti_m1, ti_0, ti_1, ti_2, ti_3, ti_4, ti_5, ti_6, ti_7, ti_8, ti_10, ti_20] at c_1 c_2 <;> omega
set_option maxHeartbeats 4000000 in
set_option maxRecDepth 100000 in
theorem rX_X11_canBe {l : Launch} {D : va_G} {q : Nat → Nat} {k : Nat → ClassId} {g : Nat → Nat → Int32} {gl : Nat → Nat → Int64} (p1 p2 : Int32) : Rd l yX11_canBe cX11_canBe 3 (some .int) 1 D (wX q k g gl) (tyX k) [.ref (q 0), .int p1, .int p2] (.int (-1)) := by
  refine Rd.of (by decide) (Nat.le_of_ble_eq_true rfl) ?_
  intro p e s m below meth c ls hx hb hr hml hown hts hlocks hP hK hl
  have hown : s.vm.findClass "SignalTable" = some m.cls := hown
  have hl : lv_has ls 3 [(0, .ref (q 0)), (1, .int p1), (2, .int p2)] := hl
  refine lv_aload_n hx hb dX11_canBe_0 rfl (lv_at hl 0 rfl) ?_
  refine lv_iload_n hx hb dX11_canBe_1 rfl (lv_at hl 1 rfl) ?_
  refine lv_iload_n hx hb dX11_canBe_2 rfl (lv_at hl 2 rfl) ?_
  refine rd_V (As := [.int p1, .int p2]) (rest := []) (d := 0) caV_SignalTable_231 hx hb hml hown hts hP hK (rX_X11_canSee p1 p2) (ci := 11) (q0 := 0) rfl rfl (by decide) rfl hl.1 (Nat.le_of_ble_eq_true rfl) (by decide) dX11_canBe_3 rfl ?_
  refine lv_if_ne (tgt := 11) hx hb dX11_canBe_6 (by decide) (fun h => absurd (by decide) h) (fun _ => ?_)
  refine lv_iconst (v := (-1)) hx hb dX11_canBe_9 (by decide) ?_
  exact rd_i hx hb hr hlocks (rfl) dX11_canBe_10
set_option maxHeartbeats 4000000 in
set_option maxRecDepth 100000 in
theorem rX_X11_after {l : Launch} {D : va_G} {q : Nat → Nat} {k : Nat → ClassId} {g : Nat → Nat → Int32} {gl : Nat → Nat → Int64} (p1 p2 p3 : Int32) : Rd l yX11_after cX11_after 4 (some .int) 1 D (wX q k g gl) (tyX k) [.ref (q 0), .int p1, .int p2, .int p3] (.int (-1)) := by
  refine Rd.of (by decide) (Nat.le_of_ble_eq_true rfl) ?_
  intro p e s m below meth c ls hx hb hr hml hown hts hlocks hP hK hl
  have hown : s.vm.findClass "SignalTable" = some m.cls := hown
  have hl : lv_has ls 4 [(0, .ref (q 0)), (1, .int p1), (2, .int p2), (3, .int p3)] := hl
  refine lv_aload_n hx hb dX11_after_0 rfl (lv_at hl 0 rfl) ?_
  refine lv_iload_n hx hb dX11_after_1 rfl (lv_at hl 1 rfl) ?_
  refine lv_iload_n hx hb dX11_after_2 rfl (lv_at hl 3 rfl) ?_
  refine rd_V (As := [.int p1, .int p3]) (rest := []) (d := 0) caV_SignalTable_231 hx hb hml hown hts hP hK (rX_X11_canSee p1 p3) (ci := 11) (q0 := 0) rfl rfl (by decide) rfl hl.1 (Nat.le_of_ble_eq_true rfl) (by decide) dX11_after_3 rfl ?_
  refine lv_if_eq (tgt := 24) hx hb dX11_after_6 (by decide) (fun _ => ?_) (fun h => absurd (by decide) h)
  refine lv_iconst (v := (-1)) hx hb dX11_after_24 (by decide) ?_
  exact rd_i hx hb hr hlocks (rfl) dX11_after_25
set_option maxHeartbeats 4000000 in
set_option maxRecDepth 100000 in
theorem rX_X11_had {l : Launch} {D : va_G} {q : Nat → Nat} {k : Nat → ClassId} {g : Nat → Nat → Int32} {gl : Nat → Nat → Int64} (p1 p2 p3 p4 : Int32) : Rd l yX11_had cX11_had 5 (some .int) 1 D (wX q k g gl) (tyX k) [.ref (q 0), .int p1, .int p2, .int p3, .int p4] (.int (-1)) := by
  refine Rd.of (by decide) (Nat.le_of_ble_eq_true rfl) ?_
  intro p e s m below meth c ls hx hb hr hml hown hts hlocks hP hK hl
  have hown : s.vm.findClass "SignalTable" = some m.cls := hown
  have hl : lv_has ls 5 [(0, .ref (q 0)), (1, .int p1), (2, .int p2), (3, .int p3), (4, .int p4)] := hl
  refine lv_aload_n hx hb dX11_had_0 rfl (lv_at hl 0 rfl) ?_
  refine lv_iload_n hx hb dX11_had_1 rfl (lv_at hl 1 rfl) ?_
  refine lv_iload hx hb dX11_had_2 (lv_at hl 4 rfl) ?_
  refine rd_V (As := [.int p1, .int p4]) (rest := []) (d := 0) caV_SignalTable_231 hx hb hml hown hts hP hK (rX_X11_canSee p1 p4) (ci := 11) (q0 := 0) rfl rfl (by decide) rfl hl.1 (Nat.le_of_ble_eq_true rfl) (by decide) dX11_had_4 rfl ?_
  refine lv_if_eq (tgt := 31) hx hb dX11_had_7 (by decide) (fun _ => ?_) (fun h => absurd (by decide) h)
  refine lv_iconst (v := (-1)) hx hb dX11_had_31 (by decide) ?_
  exact rd_i hx hb hr hlocks (rfl) dX11_had_32
set_option maxHeartbeats 4000000 in
set_option maxRecDepth 100000 in
theorem rX_X11_sure {l : Launch} {D : va_G} {q : Nat → Nat} {k : Nat → ClassId} {g : Nat → Nat → Int32} {gl : Nat → Nat → Int64} (p1 p2 : Int32) : Rd l yX11_sure cX11_sure 3 (some .int) 1 D (wX q k g gl) (tyX k) [.ref (q 0), .int p1, .int p2] (.int (-1)) := by
  refine Rd.of (by decide) (Nat.le_of_ble_eq_true rfl) ?_
  intro p e s m below meth c ls hx hb hr hml hown hts hlocks hP hK hl
  have hown : s.vm.findClass "SignalTable" = some m.cls := hown
  have hl : lv_has ls 3 [(0, .ref (q 0)), (1, .int p1), (2, .int p2)] := hl
  refine lv_aload_n hx hb dX11_sure_0 rfl (lv_at hl 0 rfl) ?_
  refine lv_iload_n hx hb dX11_sure_1 rfl (lv_at hl 1 rfl) ?_
  refine lv_iload_n hx hb dX11_sure_2 rfl (lv_at hl 2 rfl) ?_
  refine rd_V (As := [.int p1, .int p2]) (rest := []) (d := 0) caV_SignalTable_231 hx hb hml hown hts hP hK (rX_X11_canSee p1 p2) (ci := 11) (q0 := 0) rfl rfl (by decide) rfl hl.1 (Nat.le_of_ble_eq_true rfl) (by decide) dX11_sure_3 rfl ?_
  refine lv_if_ne (tgt := 11) hx hb dX11_sure_6 (by decide) (fun h => absurd (by decide) h) (fun _ => ?_)
  refine lv_iconst (v := (-1)) hx hb dX11_sure_9 (by decide) ?_
  exact rd_i hx hb hr hlocks (rfl) dX11_sure_10
set_option maxHeartbeats 4000000 in
set_option maxRecDepth 100000 in
theorem rX_X11_knows {l : Launch} {D : va_G} {q : Nat → Nat} {k : Nat → ClassId} {g : Nat → Nat → Int32} {gl : Nat → Nat → Int64} (p1 p2 p3 p4 : Int32) : Rd l yX11_knows cX11_knows 6 (some .int) 1 D (wX q k g gl) (tyX k) [.ref (q 0), .int p1, .int p2, .int p3, .int p4] (.int (-1)) := by
  refine Rd.of (by decide) (Nat.le_of_ble_eq_true rfl) ?_
  intro p e s m below meth c ls hx hb hr hml hown hts hlocks hP hK hl
  have hown : s.vm.findClass "SignalTable" = some m.cls := hown
  have hl : lv_has ls 6 [(0, .ref (q 0)), (1, .int p1), (2, .int p2), (3, .int p3), (4, .int p4)] := hl
  refine lv_aload_n hx hb dX11_knows_0 rfl (lv_at hl 0 rfl) ?_
  refine lv_iload_n hx hb dX11_knows_1 rfl (lv_at hl 1 rfl) ?_
  refine lv_iload hx hb dX11_knows_2 (lv_at hl 4 rfl) ?_
  refine rd_V (As := [.int p1, .int p4]) (rest := []) (d := 0) caV_SignalTable_231 hx hb hml hown hts hP hK (rX_X11_canSee p1 p4) (ci := 11) (q0 := 0) rfl rfl (by decide) rfl hl.1 (Nat.le_of_ble_eq_true rfl) (by decide) dX11_knows_4 rfl ?_
  refine lv_if_eq (tgt := 31) hx hb dX11_knows_7 (by decide) (fun _ => ?_) (fun h => absurd (by decide) h)
  refine lv_iconst (v := (-1)) hx hb dX11_knows_31 (by decide) ?_
  exact rd_i hx hb hr hlocks (rfl) dX11_knows_32
set_option maxHeartbeats 4000000 in
set_option maxRecDepth 100000 in
theorem rX_X11_open {l : Launch} {D : va_G} {q : Nat → Nat} {k : Nat → ClassId} {g : Nat → Nat → Int32} {gl : Nat → Nat → Int64} : Rd l yX11_open cX11_open 1 (some .int) 0 D (wX q k g gl) (tyX k) [.ref (q 0)] (.int (-2)) := by
  refine Rd.of (by decide) (Nat.le_of_ble_eq_true rfl) ?_
  intro p e s m below meth c ls hx hb hr hml hown hts hlocks hP hK hl
  have hown : s.vm.findClass "SignalTable" = some m.cls := hown
  have hl : lv_has ls 1 [(0, .ref (q 0))] := hl
  refine lv_aload_n hx hb dX11_open_0 rfl (lv_at hl 0 rfl) ?_
  refine va_get (D := D) (ci := 11) (v := .ref (q 11)) (C := RX11) (T := TX11) (N := 14) hx hb hts inX11 hown hK hP 0 rfl rfl 5 (by decide) (hts _ kw_712) (fun _ h9 => h9) rfl dX11_open_1 ?_
  refine va_get (D := D) (ci := 3) (v := .int 0) (C := RX3) (T := TX3) (N := 18) hx hb hts inX3 hown hK hP 11 rfl rfl 2 (by decide) (hts _ kw_423) (fun _ h9 => h9) rfl dX11_open_4 ?_
  refine lv_if_eq (tgt := 24) hx hb dX11_open_7 (by decide) (fun _ => ?_) (fun h => absurd (by decide) h)
  refine lv_bipush (v := (-2)) hx hb dX11_open_24 (by decide) ?_
  exact rd_i hx hb hr hlocks (rfl) dX11_open_26
set_option maxHeartbeats 4000000 in
set_option maxRecDepth 100000 in
theorem rX_X11_line {l : Launch} {D : va_G} {q : Nat → Nat} {k : Nat → ClassId} {g : Nat → Nat → Int32} {gl : Nat → Nat → Int64} (p1 : Int32) : Rd l yX11_line cX11_line 2 (some .int) 0 D (wX q k g gl) (tyX k) [.ref (q 0), .int p1] (.int (-1)) := by
  refine Rd.of (by decide) (Nat.le_of_ble_eq_true rfl) ?_
  intro p e s m below meth c ls hx hb hr hml hown hts hlocks hP hK hl
  have hown : s.vm.findClass "SignalTable" = some m.cls := hown
  have hl : lv_has ls 2 [(0, .ref (q 0)), (1, .int p1)] := hl
  refine lv_iload_n hx hb dX11_line_0 rfl (lv_at hl 1 rfl) ?_
  refine lv_if_lt (tgt := 33) hx hb dX11_line_1 (by decide) (fun c_1 => ?_) (fun c_1 => ?_)
  · skip
    refine lv_iconst (v := (-1)) hx hb dX11_line_33 (by decide) ?_
    exact rd_i hx hb hr hlocks (rfl) dX11_line_34
  · skip
    refine lv_aload_n hx hb dX11_line_4 rfl (lv_at hl 0 rfl) ?_
    refine va_get (D := D) (ci := 11) (v := .ref (q 11)) (C := RX11) (T := TX11) (N := 14) hx hb hts inX11 hown hK hP 0 rfl rfl 5 (by decide) (hts _ kw_712) (fun _ h9 => h9) rfl dX11_line_5 ?_
    refine va_get (D := D) (ci := 3) (v := .int 0) (C := RX3) (T := TX3) (N := 18) hx hb hts inX3 hown hK hP 11 rfl rfl 2 (by decide) (hts _ kw_423) (fun _ h9 => h9) rfl dX11_line_8 ?_
    refine lv_if_eq (tgt := 33) hx hb dX11_line_11 (by decide) (fun _ => ?_) (fun h => absurd (by decide) h)
    refine lv_iconst (v := (-1)) hx hb dX11_line_33 (by decide) ?_
    exact rd_i hx hb hr hlocks (rfl) dX11_line_34
set_option maxHeartbeats 4000000 in
set_option maxRecDepth 100000 in
theorem rX_X11_mean {l : Launch} {D : va_G} {q : Nat → Nat} {k : Nat → ClassId} {g : Nat → Nat → Int32} {gl : Nat → Nat → Int64} (p1 p2 : Int32) : Rd l yX11_mean cX11_mean 4 (some .long) 2 D (wX q k g gl) (tyX k) [.ref (q 0), .int p1, .int p2] (.long (-1)) := by
  refine Rd.of (by decide) (Nat.le_of_ble_eq_true rfl) ?_
  intro p e s m below meth c ls hx hb hr hml hown hts hlocks hP hK hl
  have hown : s.vm.findClass "SignalTable" = some m.cls := hown
  have hl : lv_has ls 4 [(0, .ref (q 0)), (1, .int p1), (2, .int p2)] := hl
  refine lv_aload_n hx hb dX11_mean_0 rfl (lv_at hl 0 rfl) ?_
  refine lv_iload_n hx hb dX11_mean_1 rfl (lv_at hl 2 rfl) ?_
  refine rd_V (As := [.int p2]) (rest := []) (d := 1) caV_SignalTable_273 hx hb hml hown hts hP hK (rX_X11_refusal p2) (ci := 11) (q0 := 0) rfl rfl (by decide) rfl hl.1 (Nat.le_of_ble_eq_true rfl) (by decide) dX11_mean_2 rfl ?_
  refine lv_istore_n (lv' := [(3, .int (-1)), (0, .ref (q 0)), (1, .int p1), (2, .int p2)]) hx hb dX11_mean_5 rfl hl (by decide) rfl (fun ls hl => ?_)
  refine lv_iload_n hx hb dX11_mean_6 rfl (lv_at hl 0 rfl) ?_
  refine lv_if_eq (tgt := 13) hx hb dX11_mean_7 (by decide) (fun h => absurd h (by decide)) (fun _ => ?_)
  refine lv_iload_n hx hb dX11_mean_10 rfl (lv_at hl 0 rfl) ?_
  refine lv_i2l (v := (-1)) hx hb dX11_mean_11 (by decide) ?_
  exact rd_l hx hb hr hlocks (rfl) dX11_mean_12
set_option maxHeartbeats 4000000 in
set_option maxRecDepth 100000 in
theorem rX_X11_choice {l : Launch} {D : va_G} {q : Nat → Nat} {k : Nat → ClassId} {g : Nat → Nat → Int32} {gl : Nat → Nat → Int64} (p1 : Int32) : Rd l yX11_choice cX11_choice 3 (some .int) 2 D (wX q k g gl) (tyX k) [.ref (q 0), .int p1] (.int (-1)) := by
  refine Rd.of (by decide) (Nat.le_of_ble_eq_true rfl) ?_
  intro p e s m below meth c ls hx hb hr hml hown hts hlocks hP hK hl
  have hown : s.vm.findClass "SignalTable" = some m.cls := hown
  have hl : lv_has ls 3 [(0, .ref (q 0)), (1, .int p1)] := hl
  refine lv_aload_n hx hb dX11_choice_0 rfl (lv_at hl 0 rfl) ?_
  refine lv_iload_n hx hb dX11_choice_1 rfl (lv_at hl 1 rfl) ?_
  refine rd_V (As := [.int p1]) (rest := []) (d := 1) caV_SignalTable_273 hx hb hml hown hts hP hK (rX_X11_refusal p1) (ci := 11) (q0 := 0) rfl rfl (by decide) rfl hl.1 (Nat.le_of_ble_eq_true rfl) (by decide) dX11_choice_2 rfl ?_
  refine lv_istore_n (lv' := [(2, .int (-1)), (0, .ref (q 0)), (1, .int p1)]) hx hb dX11_choice_5 rfl hl (by decide) rfl (fun ls hl => ?_)
  refine lv_iload_n hx hb dX11_choice_6 rfl (lv_at hl 0 rfl) ?_
  refine lv_if_eq (tgt := 14) hx hb dX11_choice_7 (by decide) (fun h => absurd h (by decide)) (fun _ => ?_)
  refine lv_iload_n hx hb dX11_choice_10 rfl (lv_at hl 0 rfl) ?_
  refine lv_goto (tgt := 33) hx hb dX11_choice_11 (by decide) ?_
  exact rd_i hx hb hr hlocks (rfl) dX11_choice_33
set_option maxHeartbeats 4000000 in
set_option maxRecDepth 100000 in
theorem rX_X11_spread {l : Launch} {D : va_G} {q : Nat → Nat} {k : Nat → ClassId} {g : Nat → Nat → Int32} {gl : Nat → Nat → Int64} (p1 p2 p3 : Int32) : Rd l yX11_spread cX11_spread 5 (some .int) 2 D (wX q k g gl) (tyX k) [.ref (q 0), .int p1, .int p2, .int p3] (.int (-1)) := by
  refine Rd.of (by decide) (Nat.le_of_ble_eq_true rfl) ?_
  intro p e s m below meth c ls hx hb hr hml hown hts hlocks hP hK hl
  have hown : s.vm.findClass "SignalTable" = some m.cls := hown
  have hl : lv_has ls 5 [(0, .ref (q 0)), (1, .int p1), (2, .int p2), (3, .int p3)] := hl
  refine lv_aload_n hx hb dX11_spread_0 rfl (lv_at hl 0 rfl) ?_
  refine lv_iload_n hx hb dX11_spread_1 rfl (lv_at hl 2 rfl) ?_
  refine rd_V (As := [.int p2]) (rest := []) (d := 1) caV_SignalTable_273 hx hb hml hown hts hP hK (rX_X11_refusal p2) (ci := 11) (q0 := 0) rfl rfl (by decide) rfl hl.1 (Nat.le_of_ble_eq_true rfl) (by decide) dX11_spread_2 rfl ?_
  refine lv_istore (lv' := [(4, .int (-1)), (0, .ref (q 0)), (1, .int p1), (2, .int p2), (3, .int p3)]) hx hb dX11_spread_5 hl (by decide) rfl (fun ls hl => ?_)
  refine lv_iload hx hb dX11_spread_7 (lv_at hl 0 rfl) ?_
  refine lv_if_eq (tgt := 15) hx hb dX11_spread_9 (by decide) (fun h => absurd h (by decide)) (fun _ => ?_)
  refine lv_iload hx hb dX11_spread_12 (lv_at hl 0 rfl) ?_
  exact rd_i hx hb hr hlocks (rfl) dX11_spread_14
set_option maxHeartbeats 4000000 in
set_option maxRecDepth 100000 in
theorem rX_X11_safe {l : Launch} {D : va_G} {q : Nat → Nat} {k : Nat → ClassId} {g : Nat → Nat → Int32} {gl : Nat → Nat → Int64} (p1 p2 : Int32) : Rd l yX11_safe cX11_safe 5 (some .int) 2 D (wX q k g gl) (tyX k) [.ref (q 0), .int p1, .int p2] (.int (-1)) := by
  refine Rd.of (by decide) (Nat.le_of_ble_eq_true rfl) ?_
  intro p e s m below meth c ls hx hb hr hml hown hts hlocks hP hK hl
  have hown : s.vm.findClass "SignalTable" = some m.cls := hown
  have hl : lv_has ls 5 [(0, .ref (q 0)), (1, .int p1), (2, .int p2)] := hl
  refine lv_iload_n hx hb dX11_safe_0 rfl (lv_at hl 2 rfl) ?_
  refine lv_if_lt (tgt := 9) hx hb dX11_safe_1 (by decide) (fun c_1 => ?_) (fun c_1 => ?_)
  · skip
    refine lv_iconst (v := (-1)) hx hb dX11_safe_9 (by decide) ?_
    exact rd_i hx hb hr hlocks (rfl) dX11_safe_10
  · skip
    refine lv_iload_n hx hb dX11_safe_4 rfl (lv_at hl 2 rfl) ?_
    refine lv_iconst (v := 1) hx hb dX11_safe_5 (by decide) ?_
    refine lv_icmp_le (tgt := 11) hx hb dX11_safe_6 (by decide) (fun c_2 => ?_) (fun c_2 => ?_)
    · skip
      refine lv_aload_n hx hb dX11_safe_11 rfl (lv_at hl 0 rfl) ?_
      refine lv_iload_n hx hb dX11_safe_12 rfl (lv_at hl 1 rfl) ?_
      refine rd_V (As := [.int p1]) (rest := []) (d := 1) caV_SignalTable_273 hx hb hml hown hts hP hK (rX_X11_refusal p1) (ci := 11) (q0 := 0) rfl rfl (by decide) rfl hl.1 (Nat.le_of_ble_eq_true rfl) (by decide) dX11_safe_13 rfl ?_
      refine lv_istore_n (lv' := [(3, .int (-1)), (0, .ref (q 0)), (1, .int p1), (2, .int p2)]) hx hb dX11_safe_16 rfl hl (by decide) rfl (fun ls hl => ?_)
      refine lv_iload_n hx hb dX11_safe_17 rfl (lv_at hl 0 rfl) ?_
      refine lv_if_eq (tgt := 23) hx hb dX11_safe_18 (by decide) (fun h => absurd h (by decide)) (fun _ => ?_)
      refine lv_iload_n hx hb dX11_safe_21 rfl (lv_at hl 0 rfl) ?_
      exact rd_i hx hb hr hlocks (rfl) dX11_safe_22
    · skip
      refine lv_iconst (v := (-1)) hx hb dX11_safe_9 (by decide) ?_
      exact rd_i hx hb hr hlocks (rfl) dX11_safe_10
set_option maxHeartbeats 4000000 in
set_option maxRecDepth 100000 in
theorem rX_X11_loss {l : Launch} {D : va_G} {q : Nat → Nat} {k : Nat → ClassId} {g : Nat → Nat → Int32} {gl : Nat → Nat → Int64} (p1 : Int32) : Rd l yX11_loss cX11_loss 3 (some .int) 2 D (wX q k g gl) (tyX k) [.ref (q 0), .int p1] (.int (-1)) := by
  refine Rd.of (by decide) (Nat.le_of_ble_eq_true rfl) ?_
  intro p e s m below meth c ls hx hb hr hml hown hts hlocks hP hK hl
  have hown : s.vm.findClass "SignalTable" = some m.cls := hown
  have hl : lv_has ls 3 [(0, .ref (q 0)), (1, .int p1)] := hl
  refine lv_aload_n hx hb dX11_loss_0 rfl (lv_at hl 0 rfl) ?_
  refine lv_iload_n hx hb dX11_loss_1 rfl (lv_at hl 1 rfl) ?_
  refine rd_V (As := [.int p1]) (rest := []) (d := 1) caV_SignalTable_273 hx hb hml hown hts hP hK (rX_X11_refusal p1) (ci := 11) (q0 := 0) rfl rfl (by decide) rfl hl.1 (Nat.le_of_ble_eq_true rfl) (by decide) dX11_loss_2 rfl ?_
  refine lv_istore_n (lv' := [(2, .int (-1)), (0, .ref (q 0)), (1, .int p1)]) hx hb dX11_loss_5 rfl hl (by decide) rfl (fun ls hl => ?_)
  refine lv_iload_n hx hb dX11_loss_6 rfl (lv_at hl 0 rfl) ?_
  refine lv_if_eq (tgt := 12) hx hb dX11_loss_7 (by decide) (fun h => absurd h (by decide)) (fun _ => ?_)
  refine lv_iload_n hx hb dX11_loss_10 rfl (lv_at hl 0 rfl) ?_
  exact rd_i hx hb hr hlocks (rfl) dX11_loss_11
set_option maxHeartbeats 4000000 in
set_option maxRecDepth 100000 in
theorem rX_X11_differs {l : Launch} {D : va_G} {q : Nat → Nat} {k : Nat → ClassId} {g : Nat → Nat → Int32} {gl : Nat → Nat → Int64} (p1 : Int32) : Rd l yX11_differs cX11_differs 5 (some .int) 2 D (wX q k g gl) (tyX k) [.ref (q 0), .int p1] (.int (-1)) := by
  refine Rd.of (by decide) (Nat.le_of_ble_eq_true rfl) ?_
  intro p e s m below meth c ls hx hb hr hml hown hts hlocks hP hK hl
  have hown : s.vm.findClass "SignalTable" = some m.cls := hown
  have hl : lv_has ls 5 [(0, .ref (q 0)), (1, .int p1)] := hl
  refine lv_aload_n hx hb dX11_differs_0 rfl (lv_at hl 0 rfl) ?_
  refine lv_iload_n hx hb dX11_differs_1 rfl (lv_at hl 1 rfl) ?_
  refine rd_V (As := [.int p1]) (rest := []) (d := 1) caV_SignalTable_273 hx hb hml hown hts hP hK (rX_X11_refusal p1) (ci := 11) (q0 := 0) rfl rfl (by decide) rfl hl.1 (Nat.le_of_ble_eq_true rfl) (by decide) dX11_differs_2 rfl ?_
  refine lv_istore_n (lv' := [(2, .int (-1)), (0, .ref (q 0)), (1, .int p1)]) hx hb dX11_differs_5 rfl hl (by decide) rfl (fun ls hl => ?_)
  refine lv_iload_n hx hb dX11_differs_6 rfl (lv_at hl 0 rfl) ?_
  refine lv_if_eq (tgt := 12) hx hb dX11_differs_7 (by decide) (fun h => absurd h (by decide)) (fun _ => ?_)
  refine lv_iload_n hx hb dX11_differs_10 rfl (lv_at hl 0 rfl) ?_
  exact rd_i hx hb hr hlocks (rfl) dX11_differs_11
set_option maxHeartbeats 4000000 in
set_option maxRecDepth 100000 in
theorem rX_X11_lies {l : Launch} {D : va_G} {q : Nat → Nat} {k : Nat → ClassId} {g : Nat → Nat → Int32} {gl : Nat → Nat → Int64} (p1 : Int32) : Rd l yX11_lies cX11_lies 2 (some .int) 0 D (wX q k g gl) (tyX k) [.ref (q 0), .int p1] (.int (-1)) := by
  refine Rd.of (by decide) (Nat.le_of_ble_eq_true rfl) ?_
  intro p e s m below meth c ls hx hb hr hml hown hts hlocks hP hK hl
  have hown : s.vm.findClass "SignalTable" = some m.cls := hown
  have hl : lv_has ls 2 [(0, .ref (q 0)), (1, .int p1)] := hl
  refine lv_aload_n hx hb dX11_lies_0 rfl (lv_at hl 0 rfl) ?_
  refine va_get (D := D) (ci := 11) (v := .ref (q 11)) (C := RX11) (T := TX11) (N := 14) hx hb hts inX11 hown hK hP 0 rfl rfl 5 (by decide) (hts _ kw_712) (fun _ h9 => h9) rfl dX11_lies_1 ?_
  refine va_get (D := D) (ci := 3) (v := .int (-2)) (C := RX3) (T := TX3) (N := 18) hx hb hts inX3 hown hK hP 11 rfl rfl 6 (by decide) (hts _ kw_437) (fun _ h9 => h9) rfl dX11_lies_4 ?_
  refine lv_if_lt (tgt := 18) hx hb dX11_lies_7 (by decide) (fun _ => ?_) (fun h => absurd (by decide) h)
  refine lv_iconst (v := (-1)) hx hb dX11_lies_18 (by decide) ?_
  refine lv_goto (tgt := 30) hx hb dX11_lies_19 (by decide) ?_
  exact rd_i hx hb hr hlocks (rfl) dX11_lies_30
set_option maxHeartbeats 4000000 in
set_option maxRecDepth 100000 in
theorem rX_X11_worth {l : Launch} {D : va_G} {q : Nat → Nat} {k : Nat → ClassId} {g : Nat → Nat → Int32} {gl : Nat → Nat → Int64} (p1 : Int32) : Rd l yX11_worth cX11_worth 5 (some .long) 2 D (wX q k g gl) (tyX k) [.ref (q 0), .int p1] (.long (-1000000)) := by
  refine Rd.of (by decide) (Nat.le_of_ble_eq_true rfl) ?_
  intro p e s m below meth c ls hx hb hr hml hown hts hlocks hP hK hl
  have hown : s.vm.findClass "SignalTable" = some m.cls := hown
  have hl : lv_has ls 5 [(0, .ref (q 0)), (1, .int p1)] := hl
  refine lv_aload_n hx hb dX11_worth_0 rfl (lv_at hl 0 rfl) ?_
  refine lv_iload_n hx hb dX11_worth_1 rfl (lv_at hl 1 rfl) ?_
  refine rd_V (As := [.int p1]) (rest := []) (d := 1) caV_SignalTable_273 hx hb hml hown hts hP hK (rX_X11_refusal p1) (ci := 11) (q0 := 0) rfl rfl (by decide) rfl hl.1 (Nat.le_of_ble_eq_true rfl) (by decide) dX11_worth_2 rfl ?_
  refine lv_if_eq (tgt := 12) hx hb dX11_worth_5 (by decide) (fun h => absurd h (by decide)) (fun _ => ?_)
  refine lv_ldc2 (v := (-1000000)) hx hb hown (hts _ kw_1368) dX11_worth_8 ?_
  exact rd_l hx hb hr hlocks (rfl) dX11_worth_11
set_option maxHeartbeats 4000000 in
set_option maxRecDepth 100000 in
theorem rX_X11_gain {l : Launch} {D : va_G} {q : Nat → Nat} {k : Nat → ClassId} {g : Nat → Nat → Int32} {gl : Nat → Nat → Int64} (p1 p2 p3 : Int32) : Rd l yX11_gain cX11_gain 4 (some .int) 1 D (wX q k g gl) (tyX k) [.ref (q 0), .int p1, .int p2, .int p3] (.int (-1000)) := by
  refine Rd.of (by decide) (Nat.le_of_ble_eq_true rfl) ?_
  intro p e s m below meth c ls hx hb hr hml hown hts hlocks hP hK hl
  have hown : s.vm.findClass "SignalTable" = some m.cls := hown
  have hl : lv_has ls 4 [(0, .ref (q 0)), (1, .int p1), (2, .int p2), (3, .int p3)] := hl
  refine lv_aload_n hx hb dX11_gain_0 rfl (lv_at hl 0 rfl) ?_
  refine lv_iload_n hx hb dX11_gain_1 rfl (lv_at hl 1 rfl) ?_
  refine rd_V (As := [.int p1]) (rest := []) (d := 0) caV_SignalTable_222 hx hb hml hown hts hP hK (rX_X11_areCustoms p1) (ci := 11) (q0 := 0) rfl rfl (by decide) rfl hl.1 (Nat.le_of_ble_eq_true rfl) (by decide) dX11_gain_2 rfl ?_
  refine lv_if_eq (tgt := 16) hx hb dX11_gain_5 (by decide) (fun c_1 => ?_) (fun c_1 => ?_)
  · skip
    have c_1 := z_if0 c_1
    refine lv_sipush (v := (-1000)) hx hb dX11_gain_16 (by decide) ?_
    exact rd_i hx hb hr hlocks (rfl) dX11_gain_19
  · skip
    have c_1 := z_ifn c_1
    refine lv_aload_n hx hb dX11_gain_8 rfl (lv_at hl 0 rfl) ?_
    refine lv_iload_n hx hb dX11_gain_9 rfl (lv_at hl 3 rfl) ?_
    refine rd_V (As := [.int p3]) (rest := []) (d := 0) caV_SignalTable_319 hx hb hml hown hts hP hK (rX_X11_canGain p3) (ci := 11) (q0 := 0) rfl rfl (by decide) rfl hl.1 (Nat.le_of_ble_eq_true rfl) (by decide) dX11_gain_10 rfl ?_
    refine lv_if_ne (tgt := 20) hx hb dX11_gain_13 (by decide) (fun h => absurd (by decide) h) (fun _ => ?_)
    refine lv_sipush (v := (-1000)) hx hb dX11_gain_16 (by decide) ?_
    exact rd_i hx hb hr hlocks (rfl) dX11_gain_19
set_option maxHeartbeats 4000000 in
set_option maxRecDepth 100000 in
theorem rX_X11_bestSet {l : Launch} {D : va_G} {q : Nat → Nat} {k : Nat → ClassId} {g : Nat → Nat → Int32} {gl : Nat → Nat → Int64} (p1 p2 p3 : Int32) : Rd l yX11_bestSet cX11_bestSet 9 (some .int) 1 D (wX q k g gl) (tyX k) [.ref (q 0), .int p1, .int p2, .int p3] (.int (-1000)) := by
  refine Rd.of (by decide) (Nat.le_of_ble_eq_true rfl) ?_
  intro p e s m below meth c ls hx hb hr hml hown hts hlocks hP hK hl
  have hown : s.vm.findClass "SignalTable" = some m.cls := hown
  have hl : lv_has ls 9 [(0, .ref (q 0)), (1, .int p1), (2, .int p2), (3, .int p3)] := hl
  refine lv_iload_n hx hb dX11_bestSet_0 rfl (lv_at hl 3 rfl) ?_
  refine lv_if_lt (tgt := 17) hx hb dX11_bestSet_1 (by decide) (fun c_1 => ?_) (fun c_1 => ?_)
  · skip
    refine lv_sipush (v := (-1000)) hx hb dX11_bestSet_17 (by decide) ?_
    exact rd_i hx hb hr hlocks (rfl) dX11_bestSet_20
  · skip
    refine lv_iload_n hx hb dX11_bestSet_4 rfl (lv_at hl 3 rfl) ?_
    refine lv_iconst (v := 1) hx hb dX11_bestSet_5 (by decide) ?_
    refine lv_icmp_gt (tgt := 17) hx hb dX11_bestSet_6 (by decide) (fun c_2 => ?_) (fun c_2 => ?_)
    · skip
      refine lv_sipush (v := (-1000)) hx hb dX11_bestSet_17 (by decide) ?_
      exact rd_i hx hb hr hlocks (rfl) dX11_bestSet_20
    · skip
      refine lv_aload_n hx hb dX11_bestSet_9 rfl (lv_at hl 0 rfl) ?_
      refine lv_iload_n hx hb dX11_bestSet_10 rfl (lv_at hl 2 rfl) ?_
      refine rd_V (As := [.int p2]) (rest := []) (d := 0) caV_SignalTable_319 hx hb hml hown hts hP hK (rX_X11_canGain p2) (ci := 11) (q0 := 0) rfl rfl (by decide) rfl hl.1 (Nat.le_of_ble_eq_true rfl) (by decide) dX11_bestSet_11 rfl ?_
      refine lv_if_ne (tgt := 21) hx hb dX11_bestSet_14 (by decide) (fun h => absurd (by decide) h) (fun _ => ?_)
      refine lv_sipush (v := (-1000)) hx hb dX11_bestSet_17 (by decide) ?_
      exact rd_i hx hb hr hlocks (rfl) dX11_bestSet_20
set_option maxHeartbeats 4000000 in
set_option maxRecDepth 100000 in
theorem rX_X11_book {l : Launch} {D : va_G} {q : Nat → Nat} {k : Nat → ClassId} {g : Nat → Nat → Int32} {gl : Nat → Nat → Int64} : Rd l yX11_book cX11_book 1 (some .int) 1 D (wX q k g gl) (tyX k) [.ref (q 0)] (.int (-1)) := by
  refine Rd.of (by decide) (Nat.le_of_ble_eq_true rfl) ?_
  intro p e s m below meth c ls hx hb hr hml hown hts hlocks hP hK hl
  have hown : s.vm.findClass "SignalTable" = some m.cls := hown
  have hl : lv_has ls 1 [(0, .ref (q 0))] := hl
  refine lv_aload_n hx hb dX11_book_0 rfl (lv_at hl 0 rfl) ?_
  refine va_get (D := D) (ci := 11) (v := .ref (q 11)) (C := RX11) (T := TX11) (N := 14) hx hb hts inX11 hown hK hP 0 rfl rfl 5 (by decide) (hts _ kw_712) (fun _ h9 => h9) rfl dX11_book_1 ?_
  refine rd_V (As := []) (rest := []) (d := 0) caV_SignalTable_329 hx hb hml hown hts hP hK (rX_X3_isOver) (ci := 3) (q0 := 11) rfl rfl (by decide) rfl hl.1 (Nat.le_of_ble_eq_true rfl) (by decide) dX11_book_4 rfl ?_
  refine lv_if_eq (tgt := 22) hx hb dX11_book_7 (by decide) (fun _ => ?_) (fun h => absurd (by decide) h)
  refine lv_iconst (v := (-1)) hx hb dX11_book_22 (by decide) ?_
  exact rd_i hx hb hr hlocks (rfl) dX11_book_23
set_option maxHeartbeats 4000000 in
set_option maxRecDepth 100000 in
theorem rX_X11_kept {l : Launch} {D : va_G} {q : Nat → Nat} {k : Nat → ClassId} {g : Nat → Nat → Int32} {gl : Nat → Nat → Int64} (p1 : Int32) : Rd l yX11_kept cX11_kept 4 (some .int) 0 D (wX q k g gl) (tyX k) [.ref (q 0), .int p1] (.int (if p1 = 0 then 0 else (-1))) := by
  refine Rd.of (by decide) (Nat.le_of_ble_eq_true rfl) ?_
  intro p e s m below meth c ls hx hb hr hml hown hts hlocks hP hK hl
  have hown : s.vm.findClass "SignalTable" = some m.cls := hown
  have hl : lv_has ls 4 [(0, .ref (q 0)), (1, .int p1)] := hl
  refine lv_iload_n hx hb dX11_kept_0 rfl (lv_at hl 1 rfl) ?_
  refine lv_if_lt (tgt := 15) hx hb dX11_kept_1 (by decide) (fun c_1 => ?_) (fun c_1 => ?_)
  · skip
    refine lv_iconst (v := (-1)) hx hb dX11_kept_15 (by decide) ?_
    exact rd_i hx hb hr hlocks (congrArg Value.int (by by_cases s_1 : p1 = 0 <;> simp only [s_1, if_true, if_false, and_self, not_false_eq_true, not_true_eq_false] <;> first | rfl | (exfalso; simp only [Int32.lt_iff_toInt_lt, Int32.le_iff_toInt_le, ← Int32.toInt_inj, ti_m2, ti_m1, ti_0, ti_1, ti_2, ti_3, ti_4, ti_5, ti_6, ti_7, ti_8, ti_10, ti_20] at s_1 c_1 <;> omega))) dX11_kept_16
  · skip
    refine lv_iload_n hx hb dX11_kept_4 rfl (lv_at hl 1 rfl) ?_
    refine lv_aload_n hx hb dX11_kept_5 rfl (lv_at hl 0 rfl) ?_
    refine va_get (D := D) (ci := 11) (v := .ref (q 24)) (C := RX11) (T := TX11) (N := 14) hx hb hts inX11 hown hK hP 0 rfl rfl 12 (by decide) (hts _ kw_719) (fun _ h9 => h9) rfl dX11_kept_6 ?_
    refine va_get (D := D) (ci := 0) (v := .int 0) (C := RX0) (T := TX0) (N := 3) hx hb hts inX0 hown hK hP 24 rfl rfl 2 (by decide) (hts _ kw_670) (fun _ h9 => h9) rfl dX11_kept_9 ?_
    refine lv_icmp_le (tgt := 17) hx hb dX11_kept_12 (by decide) (fun c_2 => ?_) (fun c_2 => ?_)
    · skip
      refine lv_iconst (v := 0) hx hb dX11_kept_17 (by decide) ?_
      refine lv_istore_n (lv' := [(2, .int 0), (0, .ref (q 0)), (1, .int p1)]) hx hb dX11_kept_18 rfl hl (by decide) rfl (fun ls hl => ?_)
      refine lv_iconst (v := 0) hx hb dX11_kept_19 (by decide) ?_
      refine lv_istore_n (lv' := [(3, .int 0), (2, .int 0), (0, .ref (q 0)), (1, .int p1)]) hx hb dX11_kept_20 rfl hl (by decide) rfl (fun ls hl => ?_)
      refine lv_iload_n hx hb dX11_kept_21 rfl (lv_at hl 0 rfl) ?_
      refine lv_aload_n hx hb dX11_kept_22 rfl (lv_at hl 2 rfl) ?_
      refine va_get (D := D) (ci := 11) (v := .ref (q 2)) (C := RX11) (T := TX11) (N := 14) hx hb hts inX11 hown hK hP 0 rfl rfl 2 (by decide) (hts _ kw_709) (fun _ h9 => h9) rfl dX11_kept_23 ?_
      refine va_get (D := D) (ci := 5) (v := .int 0) (C := RX5) (T := TX5) (N := 16) hx hb hts inX5 hown hK hP 2 rfl rfl 3 (by decide) (hts _ kw_204) (fun _ h9 => h9) rfl dX11_kept_26 ?_
      refine lv_icmp_ge (tgt := 56) hx hb dX11_kept_29 (by decide) (fun _ => ?_) (fun h => absurd (by decide) h)
      refine lv_iload_n hx hb dX11_kept_56 rfl (lv_at hl 1 rfl) ?_
      exact rd_i hx hb hr hlocks (congrArg Value.int (by by_cases s_1 : p1 = 0 <;> simp only [s_1, if_true, if_false, and_self, not_false_eq_true, not_true_eq_false] <;> first | rfl | (exfalso; simp only [Int32.lt_iff_toInt_lt, Int32.le_iff_toInt_le, ← Int32.toInt_inj, ti_m2, ti_m1, ti_0, ti_1, ti_2, ti_3, ti_4, ti_5, ti_6, ti_7, ti_8, ti_10, ti_20] at s_1 c_1 c_2 <;> omega))) dX11_kept_57
    · skip
      refine lv_iconst (v := (-1)) hx hb dX11_kept_15 (by decide) ?_
      exact rd_i hx hb hr hlocks (congrArg Value.int (by by_cases s_1 : p1 = 0 <;> simp only [s_1, if_true, if_false, and_self, not_false_eq_true, not_true_eq_false] <;> first | rfl | (exfalso; simp only [Int32.lt_iff_toInt_lt, Int32.le_iff_toInt_le, ← Int32.toInt_inj, ti_m2, ti_m1, ti_0, ti_1, ti_2, ti_3, ti_4, ti_5, ti_6, ti_7, ti_8, ti_10, ti_20] at s_1 c_1 c_2 <;> omega))) dX11_kept_16
set_option maxHeartbeats 4000000 in
set_option maxRecDepth 100000 in
theorem rX_X11_told {l : Launch} {D : va_G} {q : Nat → Nat} {k : Nat → ClassId} {g : Nat → Nat → Int32} {gl : Nat → Nat → Int64} (p1 p2 p3 : Int32) : Rd l yX11_told cX11_told 4 (some .int) 1 D (wX q k g gl) (tyX k) [.ref (q 0), .int p1, .int p2, .int p3] (.int (-1)) := by
  refine Rd.of (by decide) (Nat.le_of_ble_eq_true rfl) ?_
  intro p e s m below meth c ls hx hb hr hml hown hts hlocks hP hK hl
  have hown : s.vm.findClass "SignalTable" = some m.cls := hown
  have hl : lv_has ls 4 [(0, .ref (q 0)), (1, .int p1), (2, .int p2), (3, .int p3)] := hl
  refine lv_aload_n hx hb dX11_told_0 rfl (lv_at hl 0 rfl) ?_
  refine lv_iload_n hx hb dX11_told_1 rfl (lv_at hl 1 rfl) ?_
  refine rd_V (As := [.int p1]) (rest := []) (d := 0) caV_SignalTable_340 hx hb hml hown hts hP hK (rX_X11_isCustom p1) (ci := 11) (q0 := 0) rfl rfl (by decide) rfl hl.1 (Nat.le_of_ble_eq_true rfl) (by decide) dX11_told_2 rfl ?_
  refine lv_if_eq (tgt := 32) hx hb dX11_told_5 (by decide) (fun _ => ?_) (fun h => absurd (by decide) h)
  refine lv_iconst (v := (-1)) hx hb dX11_told_32 (by decide) ?_
  exact rd_i hx hb hr hlocks (rfl) dX11_told_33
set_option maxHeartbeats 4000000 in
set_option maxRecDepth 100000 in
theorem rX_X11_openings {l : Launch} {D : va_G} {q : Nat → Nat} {k : Nat → ClassId} {g : Nat → Nat → Int32} {gl : Nat → Nat → Int64} (p1 p2 : Int32) : Rd l yX11_openings cX11_openings 3 (some .int) 1 D (wX q k g gl) (tyX k) [.ref (q 0), .int p1, .int p2] (.int (-1)) := by
  refine Rd.of (by decide) (Nat.le_of_ble_eq_true rfl) ?_
  intro p e s m below meth c ls hx hb hr hml hown hts hlocks hP hK hl
  have hown : s.vm.findClass "SignalTable" = some m.cls := hown
  have hl : lv_has ls 3 [(0, .ref (q 0)), (1, .int p1), (2, .int p2)] := hl
  refine lv_aload_n hx hb dX11_openings_0 rfl (lv_at hl 0 rfl) ?_
  refine lv_iload_n hx hb dX11_openings_1 rfl (lv_at hl 1 rfl) ?_
  refine rd_V (As := [.int p1]) (rest := []) (d := 0) caV_SignalTable_340 hx hb hml hown hts hP hK (rX_X11_isCustom p1) (ci := 11) (q0 := 0) rfl rfl (by decide) rfl hl.1 (Nat.le_of_ble_eq_true rfl) (by decide) dX11_openings_2 rfl ?_
  refine lv_if_eq (tgt := 17) hx hb dX11_openings_5 (by decide) (fun _ => ?_) (fun h => absurd (by decide) h)
  refine lv_iconst (v := (-1)) hx hb dX11_openings_17 (by decide) ?_
  exact rd_i hx hb hr hlocks (rfl) dX11_openings_18
set_option maxHeartbeats 4000000 in
set_option maxRecDepth 100000 in
theorem rX_X11_quarrel {l : Launch} {D : va_G} {q : Nat → Nat} {k : Nat → ClassId} {g : Nat → Nat → Int32} {gl : Nat → Nat → Int64} (p1 p2 : Int32) : Rd l yX11_quarrel cX11_quarrel 3 (some .int) 1 D (wX q k g gl) (tyX k) [.ref (q 0), .int p1, .int p2] (.int (-1)) := by
  refine Rd.of (by decide) (Nat.le_of_ble_eq_true rfl) ?_
  intro p e s m below meth c ls hx hb hr hml hown hts hlocks hP hK hl
  have hown : s.vm.findClass "SignalTable" = some m.cls := hown
  have hl : lv_has ls 3 [(0, .ref (q 0)), (1, .int p1), (2, .int p2)] := hl
  refine lv_aload_n hx hb dX11_quarrel_0 rfl (lv_at hl 0 rfl) ?_
  refine lv_iload_n hx hb dX11_quarrel_1 rfl (lv_at hl 1 rfl) ?_
  refine rd_V (As := [.int p1]) (rest := []) (d := 0) caV_SignalTable_340 hx hb hml hown hts hP hK (rX_X11_isCustom p1) (ci := 11) (q0 := 0) rfl rfl (by decide) rfl hl.1 (Nat.le_of_ble_eq_true rfl) (by decide) dX11_quarrel_2 rfl ?_
  refine lv_if_eq (tgt := 21) hx hb dX11_quarrel_5 (by decide) (fun _ => ?_) (fun h => absurd (by decide) h)
  refine lv_iconst (v := (-1)) hx hb dX11_quarrel_21 (by decide) ?_
  exact rd_i hx hb hr hlocks (rfl) dX11_quarrel_22
set_option maxHeartbeats 4000000 in
set_option maxRecDepth 100000 in
theorem rX_X11_gap {l : Launch} {D : va_G} {q : Nat → Nat} {k : Nat → ClassId} {g : Nat → Nat → Int32} {gl : Nat → Nat → Int64} : Rd l yX11_gap cX11_gap 1 (some .int) 2 D (wX q k g gl) (tyX k) [.ref (q 0)] (.int 7280) := by
  refine Rd.of (by decide) (Nat.le_of_ble_eq_true rfl) ?_
  intro p e s m below meth c ls hx hb hr hml hown hts hlocks hP hK hl
  have hown : s.vm.findClass "SignalTable" = some m.cls := hown
  have hl : lv_has ls 1 [(0, .ref (q 0))] := hl
  refine lv_aload_n hx hb dX11_gap_0 rfl (lv_at hl 0 rfl) ?_
  refine va_get (D := D) (ci := 11) (v := .ref (q 25)) (C := RX11) (T := TX11) (N := 14) hx hb hts inX11 hown hK hP 0 rfl rfl 13 (by decide) (hts _ kw_720) (fun _ h9 => h9) rfl dX11_gap_1 ?_
  refine rd_V (As := []) (rest := []) (d := 1) caV_SignalTable_355 hx hb hml hown hts hP hK (rX_X7_untouched) (ci := 7) (q0 := 25) rfl rfl (by decide) rfl hl.1 (Nat.le_of_ble_eq_true rfl) (by decide) dX11_gap_4 rfl ?_
  exact rd_i hx hb hr hlocks (rfl) dX11_gap_7
set_option maxHeartbeats 4000000 in
set_option maxRecDepth 100000 in
theorem rX_X11_hold {l : Launch} {D : va_G} {q : Nat → Nat} {k : Nat → ClassId} {g : Nat → Nat → Int32} {gl : Nat → Nat → Int64} (p1 : Int32) : Rd l yX11_hold cX11_hold 2 (some .boolean) 0 D (wX q k g gl) (tyX k) [.ref (q 0), .int p1] (.int 0) := by
  refine Rd.of (by decide) (Nat.le_of_ble_eq_true rfl) ?_
  intro p e s m below meth c ls hx hb hr hml hown hts hlocks hP hK hl
  have hown : s.vm.findClass "SignalTable" = some m.cls := hown
  have hl : lv_has ls 2 [(0, .ref (q 0)), (1, .int p1)] := hl
  refine lv_iload_n hx hb dX11_hold_0 rfl (lv_at hl 1 rfl) ?_
  refine lv_if_lt (tgt := 19) hx hb dX11_hold_1 (by decide) (fun c_1 => ?_) (fun c_1 => ?_)
  · skip
    refine lv_iconst (v := 0) hx hb dX11_hold_19 (by decide) ?_
    exact rd_z hx hb hr hlocks rfl (rfl) dX11_hold_20
  · skip
    refine lv_iload_n hx hb dX11_hold_4 rfl (lv_at hl 1 rfl) ?_
    refine lv_iconst (v := 2) hx hb dX11_hold_5 (by decide) ?_
    refine lv_icmp_ge (tgt := 19) hx hb dX11_hold_6 (by decide) (fun c_2 => ?_) (fun c_2 => ?_)
    · skip
      refine lv_iconst (v := 0) hx hb dX11_hold_19 (by decide) ?_
      exact rd_z hx hb hr hlocks rfl (rfl) dX11_hold_20
    · skip
      refine lv_aload_n hx hb dX11_hold_9 rfl (lv_at hl 0 rfl) ?_
      refine va_get (D := D) (ci := 11) (v := .ref (q 11)) (C := RX11) (T := TX11) (N := 14) hx hb hts inX11 hown hK hP 0 rfl rfl 5 (by decide) (hts _ kw_712) (fun _ h9 => h9) rfl dX11_hold_10 ?_
      refine va_get (D := D) (ci := 3) (v := .int 0) (C := RX3) (T := TX3) (N := 18) hx hb hts inX3 hown hK hP 11 rfl rfl 2 (by decide) (hts _ kw_423) (fun _ h9 => h9) rfl dX11_hold_13 ?_
      refine lv_if_ne (tgt := 21) hx hb dX11_hold_16 (by decide) (fun h => absurd (by decide) h) (fun _ => ?_)
      refine lv_iconst (v := 0) hx hb dX11_hold_19 (by decide) ?_
      exact rd_z hx hb hr hlocks rfl (rfl) dX11_hold_20
set_option maxHeartbeats 4000000 in
set_option maxRecDepth 100000 in
theorem rX_X11_restore {l : Launch} {D : va_G} {q : Nat → Nat} {k : Nat → ClassId} {g : Nat → Nat → Int32} {gl : Nat → Nat → Int64} (p1 : Int32) : Rd l yX11_restore cX11_restore 2 (some .boolean) 0 D (wX q k g gl) (tyX k) [.ref (q 0), .int p1] (.int 0) := by
  refine Rd.of (by decide) (Nat.le_of_ble_eq_true rfl) ?_
  intro p e s m below meth c ls hx hb hr hml hown hts hlocks hP hK hl
  have hown : s.vm.findClass "SignalTable" = some m.cls := hown
  have hl : lv_has ls 2 [(0, .ref (q 0)), (1, .int p1)] := hl
  refine lv_iload_n hx hb dX11_restore_0 rfl (lv_at hl 1 rfl) ?_
  refine lv_if_lt (tgt := 21) hx hb dX11_restore_1 (by decide) (fun c_1 => ?_) (fun c_1 => ?_)
  · skip
    refine lv_iconst (v := 0) hx hb dX11_restore_21 (by decide) ?_
    exact rd_z hx hb hr hlocks rfl (rfl) dX11_restore_22
  · skip
    refine lv_iload_n hx hb dX11_restore_4 rfl (lv_at hl 1 rfl) ?_
    refine lv_iconst (v := 2) hx hb dX11_restore_5 (by decide) ?_
    refine lv_icmp_ge (tgt := 21) hx hb dX11_restore_6 (by decide) (fun c_2 => ?_) (fun c_2 => ?_)
    · skip
      refine lv_iconst (v := 0) hx hb dX11_restore_21 (by decide) ?_
      exact rd_z hx hb hr hlocks rfl (rfl) dX11_restore_22
    · skip
      refine lv_aload_n hx hb dX11_restore_9 rfl (lv_at hl 0 rfl) ?_
      refine va_get (D := D) (ci := 11) (v := .ref (q 16)) (C := RX11) (T := TX11) (N := 14) hx hb hts inX11 hown hK hP 0 rfl rfl 7 (by decide) (hts _ kw_714) (fun _ h9 => h9) rfl dX11_restore_10 ?_
      refine lv_iload_n hx hb dX11_restore_13 rfl (lv_at hl 1 rfl) ?_
      by_cases c_3 : p1 = 0
      · subst c_3
        refine va_aldq hx hb hK hP 16 10 rfl rfl (z_in (by decide)) dX11_restore_14 ?_
        refine z_v (v := .ref (q 17)) (by rfl) ?_
        refine va_get (D := D) (ci := 3) (v := .int 0) (C := RX3) (T := TX3) (N := 18) hx hb hts inX3 hown hK hP 17 rfl rfl 2 (by decide) (hts _ kw_423) (fun _ h9 => h9) rfl dX11_restore_15 ?_
        refine lv_if_ne (tgt := 23) hx hb dX11_restore_18 (by decide) (fun h => absurd (by decide) h) (fun _ => ?_)
        refine lv_iconst (v := 0) hx hb dX11_restore_21 (by decide) ?_
        exact rd_z hx hb hr hlocks rfl (rfl) dX11_restore_22
      by_cases c_4 : p1 = 1
      · subst c_4
        refine va_aldq hx hb hK hP 16 10 rfl rfl (z_in (by decide)) dX11_restore_14 ?_
        refine z_v (v := .ref (q 18)) (by rfl) ?_
        refine va_get (D := D) (ci := 3) (v := .int 0) (C := RX3) (T := TX3) (N := 18) hx hb hts inX3 hown hK hP 18 rfl rfl 2 (by decide) (hts _ kw_423) (fun _ h9 => h9) rfl dX11_restore_15 ?_
        refine lv_if_ne (tgt := 23) hx hb dX11_restore_18 (by decide) (fun h => absurd (by decide) h) (fun _ => ?_)
        refine lv_iconst (v := 0) hx hb dX11_restore_21 (by decide) ?_
        exact rd_z hx hb hr hlocks rfl (rfl) dX11_restore_22
      exfalso
      simp only [Int32.lt_iff_toInt_lt, Int32.le_iff_toInt_le, ← Int32.toInt_inj, ti_m2, ti_m1, ti_0, ti_1, ti_2, ti_3, ti_4, ti_5, ti_6, ti_7, ti_8, ti_10, ti_20] at c_1 c_2 c_3 c_4 <;> omega
set_option maxHeartbeats 4000000 in
set_option maxRecDepth 100000 in
theorem rX_X11_count {l : Launch} {D : va_G} {q : Nat → Nat} {k : Nat → ClassId} {g : Nat → Nat → Int32} {gl : Nat → Nat → Int64} (p1 : Int32) : Rd l yX11_count cX11_count 2 (some .int) 1 D (wX q k g gl) (tyX k) [.ref (q 0), .int p1] (.int (sp_count p1)) := by
  refine Rd.of (by decide) (Nat.le_of_ble_eq_true rfl) ?_
  intro p e s m below meth c ls hx hb hr hml hown hts hlocks hP hK hl
  have hown : s.vm.findClass "SignalTable" = some m.cls := hown
  have hl : lv_has ls 2 [(0, .ref (q 0)), (1, .int p1)] := hl
  refine lv_iload_n hx hb dX11_count_0 rfl (lv_at hl 1 rfl) ?_
  by_cases c_1 : p1 = 0
  · subst c_1
    refine lv_tableIn (off := 51) (tgt := 52) hx hb dX11_count_1 (by decide) (by decide) rfl (by decide) ?_
    refine lv_aload_n hx hb dX11_count_52 rfl (lv_at hl 0 rfl) ?_
    refine va_get (D := D) (ci := 11) (v := .ref (q 2)) (C := RX11) (T := TX11) (N := 14) hx hb hts inX11 hown hK hP 0 rfl rfl 2 (by decide) (hts _ kw_709) (fun _ h9 => h9) rfl dX11_count_53 ?_
    refine va_get (D := D) (ci := 5) (v := .int 4) (C := RX5) (T := TX5) (N := 16) hx hb hts inX5 hown hK hP 2 rfl rfl 0 (by decide) (hts _ kw_191) (fun _ h9 => h9) rfl dX11_count_56 ?_
    exact rd_i hx hb hr hlocks (rfl) dX11_count_59
  by_cases c_2 : p1 = 1
  · subst c_2
    refine lv_tableIn (off := 59) (tgt := 60) hx hb dX11_count_1 (by decide) (by decide) rfl (by decide) ?_
    refine lv_aload_n hx hb dX11_count_60 rfl (lv_at hl 0 rfl) ?_
    refine va_get (D := D) (ci := 11) (v := .ref (q 2)) (C := RX11) (T := TX11) (N := 14) hx hb hts inX11 hown hK hP 0 rfl rfl 2 (by decide) (hts _ kw_709) (fun _ h9 => h9) rfl dX11_count_61 ?_
    refine va_get (D := D) (ci := 5) (v := .int 4) (C := RX5) (T := TX5) (N := 16) hx hb hts inX5 hown hK hP 2 rfl rfl 1 (by decide) (hts _ kw_194) (fun _ h9 => h9) rfl dX11_count_64 ?_
    exact rd_i hx hb hr hlocks (rfl) dX11_count_67
  by_cases c_3 : p1 = 2
  · subst c_3
    refine lv_tableIn (off := 67) (tgt := 68) hx hb dX11_count_1 (by decide) (by decide) rfl (by decide) ?_
    refine lv_aload_n hx hb dX11_count_68 rfl (lv_at hl 0 rfl) ?_
    refine va_get (D := D) (ci := 11) (v := .ref (q 2)) (C := RX11) (T := TX11) (N := 14) hx hb hts inX11 hown hK hP 0 rfl rfl 2 (by decide) (hts _ kw_709) (fun _ h9 => h9) rfl dX11_count_69 ?_
    refine va_get (D := D) (ci := 5) (v := .int 4) (C := RX5) (T := TX5) (N := 16) hx hb hts inX5 hown hK hP 2 rfl rfl 11 (by decide) (hts _ kw_230) (fun _ h9 => h9) rfl dX11_count_72 ?_
    exact rd_i hx hb hr hlocks (rfl) dX11_count_75
  by_cases c_4 : p1 = 3
  · subst c_4
    refine lv_tableIn (off := 75) (tgt := 76) hx hb dX11_count_1 (by decide) (by decide) rfl (by decide) ?_
    refine lv_aload_n hx hb dX11_count_76 rfl (lv_at hl 0 rfl) ?_
    refine va_get (D := D) (ci := 11) (v := .ref (q 2)) (C := RX11) (T := TX11) (N := 14) hx hb hts inX11 hown hK hP 0 rfl rfl 2 (by decide) (hts _ kw_709) (fun _ h9 => h9) rfl dX11_count_77 ?_
    refine va_get (D := D) (ci := 5) (v := .int (-1)) (C := RX5) (T := TX5) (N := 16) hx hb hts inX5 hown hK hP 2 rfl rfl 2 (by decide) (hts _ kw_200) (fun _ h9 => h9) rfl dX11_count_80 ?_
    refine lv_if_ge (tgt := 91) hx hb dX11_count_83 (by decide) (fun h => absurd h (by decide)) (fun _ => ?_)
    refine lv_bipush (v := (-2)) hx hb dX11_count_86 (by decide) ?_
    refine lv_goto (tgt := 98) hx hb dX11_count_88 (by decide) ?_
    exact rd_i hx hb hr hlocks (rfl) dX11_count_98
  by_cases c_5 : p1 = 4
  · subst c_5
    refine lv_tableIn (off := 98) (tgt := 99) hx hb dX11_count_1 (by decide) (by decide) rfl (by decide) ?_
    refine lv_aload_n hx hb dX11_count_99 rfl (lv_at hl 0 rfl) ?_
    refine va_get (D := D) (ci := 11) (v := .ref (q 2)) (C := RX11) (T := TX11) (N := 14) hx hb hts inX11 hown hK hP 0 rfl rfl 2 (by decide) (hts _ kw_709) (fun _ h9 => h9) rfl dX11_count_100 ?_
    refine va_get (D := D) (ci := 5) (v := .int 0) (C := RX5) (T := TX5) (N := 16) hx hb hts inX5 hown hK hP 2 rfl rfl 3 (by decide) (hts _ kw_204) (fun _ h9 => h9) rfl dX11_count_103 ?_
    exact rd_i hx hb hr hlocks (rfl) dX11_count_106
  by_cases c_6 : p1 = 5
  · subst c_6
    refine lv_tableIn (off := 106) (tgt := 107) hx hb dX11_count_1 (by decide) (by decide) rfl (by decide) ?_
    refine lv_aload_n hx hb dX11_count_107 rfl (lv_at hl 0 rfl) ?_
    refine va_get (D := D) (ci := 11) (v := .ref (q 11)) (C := RX11) (T := TX11) (N := 14) hx hb hts inX11 hown hK hP 0 rfl rfl 5 (by decide) (hts _ kw_712) (fun _ h9 => h9) rfl dX11_count_108 ?_
    refine va_get (D := D) (ci := 3) (v := .int 0) (C := RX3) (T := TX3) (N := 18) hx hb hts inX3 hown hK hP 11 rfl rfl 2 (by decide) (hts _ kw_423) (fun _ h9 => h9) rfl dX11_count_111 ?_
    refine lv_if_eq (tgt := 127) hx hb dX11_count_114 (by decide) (fun _ => ?_) (fun h => absurd (by decide) h)
    refine lv_bipush (v := (-2)) hx hb dX11_count_127 (by decide) ?_
    exact rd_i hx hb hr hlocks (rfl) dX11_count_129
  by_cases c_7 : p1 = 6
  · subst c_7
    refine lv_tableIn (off := 129) (tgt := 130) hx hb dX11_count_1 (by decide) (by decide) rfl (by decide) ?_
    refine lv_aload_n hx hb dX11_count_130 rfl (lv_at hl 0 rfl) ?_
    refine va_get (D := D) (ci := 11) (v := .ref (q 24)) (C := RX11) (T := TX11) (N := 14) hx hb hts inX11 hown hK hP 0 rfl rfl 12 (by decide) (hts _ kw_719) (fun _ h9 => h9) rfl dX11_count_131 ?_
    refine va_get (D := D) (ci := 0) (v := .int 0) (C := RX0) (T := TX0) (N := 3) hx hb hts inX0 hown hK hP 24 rfl rfl 2 (by decide) (hts _ kw_670) (fun _ h9 => h9) rfl dX11_count_134 ?_
    exact rd_i hx hb hr hlocks (rfl) dX11_count_137
  by_cases c_8 : p1 = 7
  · subst c_8
    refine lv_tableIn (off := 137) (tgt := 138) hx hb dX11_count_1 (by decide) (by decide) rfl (by decide) ?_
    refine lv_aload_n hx hb dX11_count_138 rfl (lv_at hl 0 rfl) ?_
    refine va_get (D := D) (ci := 11) (v := .int 0) (C := RX11) (T := TX11) (N := 14) hx hb hts inX11 hown hK hP 0 rfl rfl 1 (by decide) (hts _ kw_708) (fun _ h9 => h9) rfl dX11_count_139 ?_
    exact rd_i hx hb hr hlocks (rfl) dX11_count_142
  by_cases c_9 : p1 = 8
  · subst c_9
    refine lv_tableIn (off := 142) (tgt := 143) hx hb dX11_count_1 (by decide) (by decide) rfl (by decide) ?_
    refine lv_aload_n hx hb dX11_count_143 rfl (lv_at hl 0 rfl) ?_
    refine rd_V (As := []) (rest := []) (d := 0) caV_SignalTable_367 hx hb hml hown hts hP hK (rX_X11_slotsInUse) (ci := 11) (q0 := 0) rfl rfl (by decide) rfl hl.1 (Nat.le_of_ble_eq_true rfl) (by decide) dX11_count_144 rfl ?_
    exact rd_i hx hb hr hlocks (rfl) dX11_count_147
  have c_10 : p1.toInt < 0 ∨ 8 < p1.toInt := by
    simp only [Int32.lt_iff_toInt_lt, Int32.le_iff_toInt_le, ← Int32.toInt_inj, ti_m2, ti_m1, ti_0, ti_1, ti_2, ti_3, ti_4, ti_5, ti_6, ti_7, ti_8, ti_10, ti_20] at c_1 c_2 c_3 c_4 c_5 c_6 c_7 c_8 c_9
    omega
  refine lv_tableOut (tgt := 148) hx hb dX11_count_1 c_10 (by decide) ?_
  refine lv_iload_n hx hb dX11_count_148 rfl (lv_at hl 1 rfl) ?_
  refine lv_bipush (v := 10) hx hb dX11_count_149 (by decide) ?_
  refine lv_icmp_lt (tgt := 196) hx hb dX11_count_151 (by decide) (fun c_11 => ?_) (fun c_11 => ?_)
  · skip
    refine lv_iconst (v := (-1)) hx hb dX11_count_196 (by decide) ?_
    exact rd_i hx hb hr hlocks (congrArg Value.int (by simp [sp_count, c_1, c_2, c_3, c_4, c_5, c_6, c_7, c_8, c_9, c_11])) dX11_count_197
  · skip
    refine lv_aload_n hx hb dX11_count_154 rfl (lv_at hl 0 rfl) ?_
    refine lv_iload_n hx hb dX11_count_155 rfl (lv_at hl 1 rfl) ?_
    refine lv_bipush (v := 10) hx hb dX11_count_156 (by decide) ?_
    refine lv_isub hx hb dX11_count_158 ?_
    refine rd_V (As := [.int (p1 - 10)]) (rest := []) (d := 0) caV_SignalTable_340 hx hb hml hown hts hP hK (rX_X11_isCustom (p1 - 10)) (ci := 11) (q0 := 0) rfl rfl (by decide) rfl hl.1 (Nat.le_of_ble_eq_true rfl) (by decide) dX11_count_159 rfl ?_
    refine lv_if_eq (tgt := 196) hx hb dX11_count_162 (by decide) (fun _ => ?_) (fun h => absurd (by decide) h)
    refine lv_iconst (v := (-1)) hx hb dX11_count_196 (by decide) ?_
    exact rd_i hx hb hr hlocks (congrArg Value.int (by simp [sp_count, c_1, c_2, c_3, c_4, c_5, c_6, c_7, c_8, c_9, c_11])) dX11_count_197
end
section
set_option maxHeartbeats 4000000 in
set_option maxRecDepth 100000 in
theorem rM_X12_in {l : Launch} {D : va_G} {q : Nat → Nat} {k : Nat → ClassId} {g : Nat → Nat → Int32} {gl : Nat → Nat → Int64} (p1 p2 p3 : Int32) : Rd l yX12_in cX12_in 3 (some .boolean) 0 D (wM q k g gl) (tyM k) [.int p1, .int p2, .int p3] (.int (if p2 ≤ p1 ∧ p1 ≤ p3 then 1 else 0)) := by
  refine Rd.of (by decide) (Nat.le_of_ble_eq_true rfl) ?_
  intro p e s m below meth c ls hx hb hr hml hown hts hlocks hP hK hl
  have hown : s.vm.findClass "SignalTableModel" = some m.cls := hown
  have hl : lv_has ls 3 [(0, .int p1), (1, .int p2), (2, .int p3)] := hl
  refine lv_iload_n hx hb dX12_in_0 rfl (lv_at hl 0 rfl) ?_
  refine lv_iload_n hx hb dX12_in_1 rfl (lv_at hl 1 rfl) ?_
  refine lv_icmp_lt (tgt := 14) hx hb dX12_in_2 (by decide) (fun c_1 => ?_) (fun c_1 => ?_)
  · skip
    refine lv_iconst (v := 0) hx hb dX12_in_14 (by decide) ?_
    exact rd_z hx hb hr hlocks rfl (congrArg Value.int (by by_cases s_1 : p2 ≤ p1 ∧ p1 ≤ p3 <;> simp only [s_1, if_true, if_false, and_self, not_false_eq_true, not_true_eq_false] <;> first | rfl | (exfalso; simp only [Int32.lt_iff_toInt_lt, Int32.le_iff_toInt_le, ← Int32.toInt_inj, ti_m2, ti_m1, ti_0, ti_1, ti_2, ti_3, ti_4, ti_5, ti_6, ti_7, ti_8, ti_10, ti_20] at s_1 c_1 <;> omega))) dX12_in_15
  · skip
    refine lv_iload_n hx hb dX12_in_5 rfl (lv_at hl 0 rfl) ?_
    refine lv_iload_n hx hb dX12_in_6 rfl (lv_at hl 2 rfl) ?_
    refine lv_icmp_gt (tgt := 14) hx hb dX12_in_7 (by decide) (fun c_2 => ?_) (fun c_2 => ?_)
    · skip
      refine lv_iconst (v := 0) hx hb dX12_in_14 (by decide) ?_
      exact rd_z hx hb hr hlocks rfl (congrArg Value.int (by by_cases s_1 : p2 ≤ p1 ∧ p1 ≤ p3 <;> simp only [s_1, if_true, if_false, and_self, not_false_eq_true, not_true_eq_false] <;> first | rfl | (exfalso; simp only [Int32.lt_iff_toInt_lt, Int32.le_iff_toInt_le, ← Int32.toInt_inj, ti_m2, ti_m1, ti_0, ti_1, ti_2, ti_3, ti_4, ti_5, ti_6, ti_7, ti_8, ti_10, ti_20] at s_1 c_1 c_2 <;> omega))) dX12_in_15
    · skip
      refine lv_iconst (v := 1) hx hb dX12_in_10 (by decide) ?_
      refine lv_goto (tgt := 15) hx hb dX12_in_11 (by decide) ?_
      exact rd_z hx hb hr hlocks rfl (congrArg Value.int (by by_cases s_1 : p2 ≤ p1 ∧ p1 ≤ p3 <;> simp only [s_1, if_true, if_false, and_self, not_false_eq_true, not_true_eq_false] <;> first | rfl | (exfalso; simp only [Int32.lt_iff_toInt_lt, Int32.le_iff_toInt_le, ← Int32.toInt_inj, ti_m2, ti_m1, ti_0, ti_1, ti_2, ti_3, ti_4, ti_5, ti_6, ti_7, ti_8, ti_10, ti_20] at s_1 c_1 c_2 <;> omega))) dX12_in_15
set_option maxHeartbeats 4000000 in
set_option maxRecDepth 100000 in
theorem rM_X12_cards {l : Launch} {D : va_G} {q : Nat → Nat} {k : Nat → ClassId} {g : Nat → Nat → Int32} {gl : Nat → Nat → Int64} : Rd l yX12_cards cX12_cards 1 (some .int) 0 D (wM q k g gl) (tyM k) [.ref (q 0)] (.int 16) := by
  refine Rd.of (by decide) (Nat.le_of_ble_eq_true rfl) ?_
  intro p e s m below meth c ls hx hb hr hml hown hts hlocks hP hK hl
  have hown : s.vm.findClass "SignalTableModel" = some m.cls := hown
  have hl : lv_has ls 1 [(0, .ref (q 0))] := hl
  refine lv_aload_n hx hb dX12_cards_0 rfl (lv_at hl 0 rfl) ?_
  refine va_get (D := D) (ci := 12) (v := .ref (q 6)) (C := RX12) (T := TX12) (N := 95) hx hb hts inX12 hown hK hP 0 rfl rfl 22 (by decide) (hts _ kw_1536) (fun _ h9 => h9) rfl dX12_cards_1 ?_
  refine lv_aload_n hx hb dX12_cards_4 rfl (lv_at hl 0 rfl) ?_
  refine va_get (D := D) (ci := 12) (v := .int 0) (C := RX12) (T := TX12) (N := 95) hx hb hts inX12 hown hK hP 0 rfl rfl 18 (by decide) (hts _ kw_1532) (fun _ h9 => h9) rfl dX12_cards_5 ?_
  refine va_iald hx hb hK hP 6 5 rfl rfl (z_in (by decide)) dX12_cards_8 ?_
  refine z_i (v := 4) (by rfl) ?_
  refine lv_aload_n hx hb dX12_cards_9 rfl (lv_at hl 0 rfl) ?_
  refine va_get (D := D) (ci := 12) (v := .ref (q 7)) (C := RX12) (T := TX12) (N := 95) hx hb hts inX12 hown hK hP 0 rfl rfl 23 (by decide) (hts _ kw_1537) (fun _ h9 => h9) rfl dX12_cards_10 ?_
  refine lv_aload_n hx hb dX12_cards_13 rfl (lv_at hl 0 rfl) ?_
  refine va_get (D := D) (ci := 12) (v := .int 0) (C := RX12) (T := TX12) (N := 95) hx hb hts inX12 hown hK hP 0 rfl rfl 18 (by decide) (hts _ kw_1532) (fun _ h9 => h9) rfl dX12_cards_14 ?_
  refine va_iald hx hb hK hP 7 6 rfl rfl (z_in (by decide)) dX12_cards_17 ?_
  refine z_i (v := 4) (by rfl) ?_
  refine lv_imul hx hb dX12_cards_18 ?_
  refine z_i (v := 16) (by decide) ?_
  exact rd_i hx hb hr hlocks (rfl) dX12_cards_19
set_option maxHeartbeats 4000000 in
set_option maxRecDepth 100000 in
theorem rM_X12_handSize {l : Launch} {D : va_G} {q : Nat → Nat} {k : Nat → ClassId} {g : Nat → Nat → Int32} {gl : Nat → Nat → Int64} : Rd l yX12_handSize cX12_handSize 1 (some .int) 1 D (wM q k g gl) (tyM k) [.ref (q 0)] (.int 4) := by
  refine Rd.of (by decide) (Nat.le_of_ble_eq_true rfl) ?_
  intro p e s m below meth c ls hx hb hr hml hown hts hlocks hP hK hl
  have hown : s.vm.findClass "SignalTableModel" = some m.cls := hown
  have hl : lv_has ls 1 [(0, .ref (q 0))] := hl
  refine lv_aload_n hx hb dX12_handSize_0 rfl (lv_at hl 0 rfl) ?_
  refine rd_V (As := []) (rest := []) (d := 0) caV_SignalTableModel_351 hx hb hml hown hts hP hK (rM_X12_cards) (ci := 12) (q0 := 0) rfl rfl (by decide) rfl hl.1 (Nat.le_of_ble_eq_true rfl) (by decide) dX12_handSize_1 rfl ?_
  refine lv_iconst (v := 4) hx hb dX12_handSize_4 (by decide) ?_
  refine lv_idiv hx hb dX12_handSize_5 (by decide) ?_
  refine z_i (v := 4) (by decide) ?_
  exact rd_i hx hb hr hlocks (rfl) dX12_handSize_6
set_option maxHeartbeats 4000000 in
set_option maxRecDepth 100000 in
theorem rM_X12_trumpSuit {l : Launch} {D : va_G} {q : Nat → Nat} {k : Nat → ClassId} {g : Nat → Nat → Int32} {gl : Nat → Nat → Int64} : Rd l yX12_trumpSuit cX12_trumpSuit 1 (some .int) 0 D (wM q k g gl) (tyM k) [.ref (q 0)] (.int (-1)) := by
  refine Rd.of (by decide) (Nat.le_of_ble_eq_true rfl) ?_
  intro p e s m below meth c ls hx hb hr hml hown hts hlocks hP hK hl
  have hown : s.vm.findClass "SignalTableModel" = some m.cls := hown
  have hl : lv_has ls 1 [(0, .ref (q 0))] := hl
  refine lv_aload_n hx hb dX12_trumpSuit_0 rfl (lv_at hl 0 rfl) ?_
  refine va_get (D := D) (ci := 12) (v := .ref (q 8)) (C := RX12) (T := TX12) (N := 95) hx hb hts inX12 hown hK hP 0 rfl rfl 24 (by decide) (hts _ kw_1538) (fun _ h9 => h9) rfl dX12_trumpSuit_1 ?_
  refine lv_aload_n hx hb dX12_trumpSuit_4 rfl (lv_at hl 0 rfl) ?_
  refine va_get (D := D) (ci := 12) (v := .int 0) (C := RX12) (T := TX12) (N := 95) hx hb hts inX12 hown hK hP 0 rfl rfl 18 (by decide) (hts _ kw_1532) (fun _ h9 => h9) rfl dX12_trumpSuit_5 ?_
  refine va_iald hx hb hK hP 8 7 rfl rfl (z_in (by decide)) dX12_trumpSuit_8 ?_
  refine z_i (v := (-1)) (by rfl) ?_
  refine lv_aload_n hx hb dX12_trumpSuit_9 rfl (lv_at hl 0 rfl) ?_
  refine va_get (D := D) (ci := 12) (v := .ref (q 6)) (C := RX12) (T := TX12) (N := 95) hx hb hts inX12 hown hK hP 0 rfl rfl 22 (by decide) (hts _ kw_1536) (fun _ h9 => h9) rfl dX12_trumpSuit_10 ?_
  refine lv_aload_n hx hb dX12_trumpSuit_13 rfl (lv_at hl 0 rfl) ?_
  refine va_get (D := D) (ci := 12) (v := .int 0) (C := RX12) (T := TX12) (N := 95) hx hb hts inX12 hown hK hP 0 rfl rfl 18 (by decide) (hts _ kw_1532) (fun _ h9 => h9) rfl dX12_trumpSuit_14 ?_
  refine va_iald hx hb hK hP 6 5 rfl rfl (z_in (by decide)) dX12_trumpSuit_17 ?_
  refine z_i (v := 4) (by rfl) ?_
  refine lv_icmp_ge (tgt := 33) hx hb dX12_trumpSuit_18 (by decide) (fun h => absurd h (by decide)) (fun _ => ?_)
  refine lv_aload_n hx hb dX12_trumpSuit_21 rfl (lv_at hl 0 rfl) ?_
  refine va_get (D := D) (ci := 12) (v := .ref (q 8)) (C := RX12) (T := TX12) (N := 95) hx hb hts inX12 hown hK hP 0 rfl rfl 24 (by decide) (hts _ kw_1538) (fun _ h9 => h9) rfl dX12_trumpSuit_22 ?_
  refine lv_aload_n hx hb dX12_trumpSuit_25 rfl (lv_at hl 0 rfl) ?_
  refine va_get (D := D) (ci := 12) (v := .int 0) (C := RX12) (T := TX12) (N := 95) hx hb hts inX12 hown hK hP 0 rfl rfl 18 (by decide) (hts _ kw_1532) (fun _ h9 => h9) rfl dX12_trumpSuit_26 ?_
  refine va_iald hx hb hK hP 8 7 rfl rfl (z_in (by decide)) dX12_trumpSuit_29 ?_
  refine z_i (v := (-1)) (by rfl) ?_
  refine lv_goto (tgt := 34) hx hb dX12_trumpSuit_30 (by decide) ?_
  exact rd_i hx hb hr hlocks (rfl) dX12_trumpSuit_34
set_option maxHeartbeats 4000000 in
set_option maxRecDepth 100000 in
theorem rM_X12_areCustoms {l : Launch} {D : va_G} {q : Nat → Nat} {k : Nat → ClassId} {g : Nat → Nat → Int32} {gl : Nat → Nat → Int64} (p1 : Int32) : Rd l yX12_areCustoms cX12_areCustoms 2 (some .boolean) 1 D (wM q k g gl) (tyM k) [.ref (q 0), .int p1] (.int (if 0 ≤ p1 ∧ p1 ≤ 0 then 1 else 0)) := by
  refine Rd.of (by decide) (Nat.le_of_ble_eq_true rfl) ?_
  intro p e s m below meth c ls hx hb hr hml hown hts hlocks hP hK hl
  have hown : s.vm.findClass "SignalTableModel" = some m.cls := hown
  have hl : lv_has ls 2 [(0, .ref (q 0)), (1, .int p1)] := hl
  refine lv_iload_n hx hb dX12_areCustoms_0 rfl (lv_at hl 1 rfl) ?_
  refine lv_iconst (v := 0) hx hb dX12_areCustoms_1 (by decide) ?_
  refine lv_iconst (v := 1) hx hb dX12_areCustoms_2 (by decide) ?_
  refine lv_aload_n hx hb dX12_areCustoms_3 rfl (lv_at hl 0 rfl) ?_
  refine va_get (D := D) (ci := 12) (v := .ref (q 9)) (C := RX12) (T := TX12) (N := 95) hx hb hts inX12 hown hK hP 0 rfl rfl 25 (by decide) (hts _ kw_1539) (fun _ h9 => h9) rfl dX12_areCustoms_4 ?_
  refine lv_aload_n hx hb dX12_areCustoms_7 rfl (lv_at hl 0 rfl) ?_
  refine va_get (D := D) (ci := 12) (v := .int 0) (C := RX12) (T := TX12) (N := 95) hx hb hts inX12 hown hK hP 0 rfl rfl 18 (by decide) (hts _ kw_1532) (fun _ h9 => h9) rfl dX12_areCustoms_8 ?_
  refine va_iald hx hb hK hP 9 8 rfl rfl (z_in (by decide)) dX12_areCustoms_11 ?_
  refine z_i (v := 0) (by rfl) ?_
  refine lv_ishl hx hb dX12_areCustoms_12 ?_
  refine z_i (v := 1) (by decide) ?_
  refine lv_iconst (v := 1) hx hb dX12_areCustoms_13 (by decide) ?_
  refine lv_isub hx hb dX12_areCustoms_14 ?_
  refine z_i (v := 0) (by decide) ?_
  refine rd_S (As := [.int p1, .int 0, .int 0]) (rest := []) (d := 0) caS_SignalTableModel_310 hx hb hml hown hts hP hK (rM_X12_in p1 0 0) (by decide) rfl hl.1 (Nat.le_of_ble_eq_true rfl) (by decide) dX12_areCustoms_15 rfl ?_
  exact rd_z hx hb hr hlocks (by split <;> rfl) (rfl) dX12_areCustoms_18
set_option maxHeartbeats 4000000 in
set_option maxRecDepth 100000 in
theorem rM_X12_turnNow {l : Launch} {D : va_G} {q : Nat → Nat} {k : Nat → ClassId} {g : Nat → Nat → Int32} {gl : Nat → Nat → Int64} : Rd l yX12_turnNow cX12_turnNow 1 (some .int) 0 D (wM q k g gl) (tyM k) [.ref (q 0)] (.int (-2)) := by
  refine Rd.of (by decide) (Nat.le_of_ble_eq_true rfl) ?_
  intro p e s m below meth c ls hx hb hr hml hown hts hlocks hP hK hl
  have hown : s.vm.findClass "SignalTableModel" = some m.cls := hown
  have hl : lv_has ls 1 [(0, .ref (q 0))] := hl
  refine lv_aload_n hx hb dX12_turnNow_0 rfl (lv_at hl 0 rfl) ?_
  refine va_get (D := D) (ci := 12) (v := .int 0) (C := RX12) (T := TX12) (N := 95) hx hb hts inX12 hown hK hP 0 rfl rfl 45 (by decide) (hts _ kw_1559) (fun _ h9 => h9) rfl dX12_turnNow_1 ?_
  refine lv_if_eq (tgt := 18) hx hb dX12_turnNow_4 (by decide) (fun _ => ?_) (fun h => absurd (by decide) h)
  refine lv_bipush (v := (-2)) hx hb dX12_turnNow_18 (by decide) ?_
  exact rd_i hx hb hr hlocks (rfl) dX12_turnNow_20
set_option maxHeartbeats 4000000 in
set_option maxRecDepth 100000 in
theorem rM_X12_mayNow {l : Launch} {D : va_G} {q : Nat → Nat} {k : Nat → ClassId} {g : Nat → Nat → Int32} {gl : Nat → Nat → Int64} : Rd l yX12_mayNow cX12_mayNow 4 (some .int) 1 D (wM q k g gl) (tyM k) [.ref (q 0)] (.int 0) := by
  refine Rd.of (by decide) (Nat.le_of_ble_eq_true rfl) ?_
  intro p e s m below meth c ls hx hb hr hml hown hts hlocks hP hK hl
  have hown : s.vm.findClass "SignalTableModel" = some m.cls := hown
  have hl : lv_has ls 4 [(0, .ref (q 0))] := hl
  refine lv_aload_n hx hb dX12_mayNow_0 rfl (lv_at hl 0 rfl) ?_
  refine rd_V (As := []) (rest := []) (d := 0) caV_SignalTableModel_396 hx hb hml hown hts hP hK (rM_X12_turnNow) (ci := 12) (q0 := 0) rfl rfl (by decide) rfl hl.1 (Nat.le_of_ble_eq_true rfl) (by decide) dX12_mayNow_1 rfl ?_
  refine lv_istore_n (lv' := [(1, .int (-2)), (0, .ref (q 0))]) hx hb dX12_mayNow_4 rfl hl (by decide) rfl (fun ls hl => ?_)
  refine lv_iload_n hx hb dX12_mayNow_5 rfl (lv_at hl 0 rfl) ?_
  refine lv_if_ge (tgt := 11) hx hb dX12_mayNow_6 (by decide) (fun h => absurd h (by decide)) (fun _ => ?_)
  refine lv_iconst (v := 0) hx hb dX12_mayNow_9 (by decide) ?_
  exact rd_i hx hb hr hlocks (rfl) dX12_mayNow_10
set_option maxHeartbeats 4000000 in
set_option maxRecDepth 100000 in
theorem rM_X12_canPlay {l : Launch} {D : va_G} {q : Nat → Nat} {k : Nat → ClassId} {g : Nat → Nat → Int32} {gl : Nat → Nat → Int64} (p1 : Int32) : Rd l yX12_canPlay cX12_canPlay 3 (some .boolean) 1 D (wM q k g gl) (tyM k) [.ref (q 0), .int p1] (.int 0) := by
  refine Rd.of (by decide) (Nat.le_of_ble_eq_true rfl) ?_
  intro p e s m below meth c ls hx hb hr hml hown hts hlocks hP hK hl
  have hown : s.vm.findClass "SignalTableModel" = some m.cls := hown
  have hl : lv_has ls 3 [(0, .ref (q 0)), (1, .int p1)] := hl
  refine lv_aload_n hx hb dX12_canPlay_0 rfl (lv_at hl 0 rfl) ?_
  refine rd_V (As := []) (rest := []) (d := 0) caV_SignalTableModel_396 hx hb hml hown hts hP hK (rM_X12_turnNow) (ci := 12) (q0 := 0) rfl rfl (by decide) rfl hl.1 (Nat.le_of_ble_eq_true rfl) (by decide) dX12_canPlay_1 rfl ?_
  refine lv_istore_n (lv' := [(2, .int (-2)), (0, .ref (q 0)), (1, .int p1)]) hx hb dX12_canPlay_4 rfl hl (by decide) rfl (fun ls hl => ?_)
  refine lv_iload_n hx hb dX12_canPlay_5 rfl (lv_at hl 0 rfl) ?_
  refine lv_if_lt (tgt := 34) hx hb dX12_canPlay_6 (by decide) (fun _ => ?_) (fun h => absurd (by decide) h)
  refine lv_iconst (v := 0) hx hb dX12_canPlay_34 (by decide) ?_
  exact rd_z hx hb hr hlocks rfl (rfl) dX12_canPlay_35
set_option maxHeartbeats 4000000 in
set_option maxRecDepth 100000 in
theorem rM_X12_canAsk {l : Launch} {D : va_G} {q : Nat → Nat} {k : Nat → ClassId} {g : Nat → Nat → Int32} {gl : Nat → Nat → Int64} (p1 p2 : Int32) : Rd l yX12_canAsk cX12_canAsk 3 (some .boolean) 0 D (wM q k g gl) (tyM k) [.ref (q 0), .int p1, .int p2] (.int 0) := by
  refine Rd.of (by decide) (Nat.le_of_ble_eq_true rfl) ?_
  intro p e s m below meth c ls hx hb hr hml hown hts hlocks hP hK hl
  have hown : s.vm.findClass "SignalTableModel" = some m.cls := hown
  have hl : lv_has ls 3 [(0, .ref (q 0)), (1, .int p1), (2, .int p2)] := hl
  refine lv_aload_n hx hb dX12_canAsk_0 rfl (lv_at hl 0 rfl) ?_
  refine va_get (D := D) (ci := 12) (v := .int 0) (C := RX12) (T := TX12) (N := 95) hx hb hts inX12 hown hK hP 0 rfl rfl 45 (by decide) (hts _ kw_1559) (fun _ h9 => h9) rfl dX12_canAsk_1 ?_
  refine lv_if_eq (tgt := 26) hx hb dX12_canAsk_4 (by decide) (fun _ => ?_) (fun h => absurd (by decide) h)
  refine lv_iconst (v := 0) hx hb dX12_canAsk_26 (by decide) ?_
  exact rd_z hx hb hr hlocks rfl (rfl) dX12_canAsk_27
set_option maxHeartbeats 4000000 in
set_option maxRecDepth 100000 in
theorem rM_X12_canMean {l : Launch} {D : va_G} {q : Nat → Nat} {k : Nat → ClassId} {g : Nat → Nat → Int32} {gl : Nat → Nat → Int64} (p1 : Int32) : Rd l yX12_canMean cX12_canMean 2 (some .boolean) 1 D (wM q k g gl) (tyM k) [.ref (q 0), .int p1] (.int 0) := by
  refine Rd.of (by decide) (Nat.le_of_ble_eq_true rfl) ?_
  intro p e s m below meth c ls hx hb hr hml hown hts hlocks hP hK hl
  have hown : s.vm.findClass "SignalTableModel" = some m.cls := hown
  have hl : lv_has ls 2 [(0, .ref (q 0)), (1, .int p1)] := hl
  refine lv_aload_n hx hb dX12_canMean_0 rfl (lv_at hl 0 rfl) ?_
  refine rd_V (As := []) (rest := []) (d := 0) caV_SignalTableModel_396 hx hb hml hown hts hP hK (rM_X12_turnNow) (ci := 12) (q0 := 0) rfl rfl (by decide) rfl hl.1 (Nat.le_of_ble_eq_true rfl) (by decide) dX12_canMean_1 rfl ?_
  refine lv_if_lt (tgt := 19) hx hb dX12_canMean_4 (by decide) (fun _ => ?_) (fun h => absurd (by decide) h)
  refine lv_iconst (v := 0) hx hb dX12_canMean_19 (by decide) ?_
  exact rd_z hx hb hr hlocks rfl (rfl) dX12_canMean_20
set_option maxHeartbeats 4000000 in
set_option maxRecDepth 100000 in
theorem rM_X12_canGain {l : Launch} {D : va_G} {q : Nat → Nat} {k : Nat → ClassId} {g : Nat → Nat → Int32} {gl : Nat → Nat → Int64} (p1 : Int32) : Rd l yX12_canGain cX12_canGain 2 (some .boolean) 1 D (wM q k g gl) (tyM k) [.ref (q 0), .int p1] (.int 0) := by
  refine Rd.of (by decide) (Nat.le_of_ble_eq_true rfl) ?_
  intro p e s m below meth c ls hx hb hr hml hown hts hlocks hP hK hl
  have hown : s.vm.findClass "SignalTableModel" = some m.cls := hown
  have hl : lv_has ls 2 [(0, .ref (q 0)), (1, .int p1)] := hl
  refine lv_iload_n hx hb dX12_canGain_0 rfl (lv_at hl 1 rfl) ?_
  refine lv_iconst (v := 1) hx hb dX12_canGain_1 (by decide) ?_
  refine lv_bipush (v := 20) hx hb dX12_canGain_2 (by decide) ?_
  refine rd_S (As := [.int p1, .int 1, .int 20]) (rest := []) (d := 0) caS_SignalTableModel_310 hx hb hml hown hts hP hK (rM_X12_in p1 1 20) (by decide) rfl hl.1 (Nat.le_of_ble_eq_true rfl) (by decide) dX12_canGain_4 rfl ?_
  refine lv_if_eq (tgt := 23) hx hb dX12_canGain_7 (by decide) (fun c_1 => ?_) (fun c_1 => ?_)
  · skip
    have c_1 := z_if0 c_1
    refine lv_iconst (v := 0) hx hb dX12_canGain_23 (by decide) ?_
    exact rd_z hx hb hr hlocks rfl (rfl) dX12_canGain_24
  · skip
    have c_1 := z_ifn c_1
    refine lv_aload_n hx hb dX12_canGain_10 rfl (lv_at hl 0 rfl) ?_
    refine rd_V (As := []) (rest := []) (d := 0) caV_SignalTableModel_351 hx hb hml hown hts hP hK (rM_X12_cards) (ci := 12) (q0 := 0) rfl rfl (by decide) rfl hl.1 (Nat.le_of_ble_eq_true rfl) (by decide) dX12_canGain_11 rfl ?_
    refine lv_bipush (v := 8) hx hb dX12_canGain_14 (by decide) ?_
    refine lv_icmp_ne (tgt := 23) hx hb dX12_canGain_16 (by decide) (fun _ => ?_) (fun h => absurd h (by decide))
    refine lv_iconst (v := 0) hx hb dX12_canGain_23 (by decide) ?_
    exact rd_z hx hb hr hlocks rfl (rfl) dX12_canGain_24
set_option maxHeartbeats 4000000 in
set_option maxRecDepth 100000 in
theorem rM_X12_isCustom {l : Launch} {D : va_G} {q : Nat → Nat} {k : Nat → ClassId} {g : Nat → Nat → Int32} {gl : Nat → Nat → Int64} (p1 : Int32) : Rd l yX12_isCustom cX12_isCustom 2 (some .boolean) 1 D (wM q k g gl) (tyM k) [.ref (q 0), .int p1] (.int 0) := by
  refine Rd.of (by decide) (Nat.le_of_ble_eq_true rfl) ?_
  intro p e s m below meth c ls hx hb hr hml hown hts hlocks hP hK hl
  have hown : s.vm.findClass "SignalTableModel" = some m.cls := hown
  have hl : lv_has ls 2 [(0, .ref (q 0)), (1, .int p1)] := hl
  refine lv_iload_n hx hb dX12_isCustom_0 rfl (lv_at hl 1 rfl) ?_
  refine lv_iconst (v := 0) hx hb dX12_isCustom_1 (by decide) ?_
  refine lv_aload_n hx hb dX12_isCustom_2 rfl (lv_at hl 0 rfl) ?_
  refine va_get (D := D) (ci := 12) (v := .ref (q 9)) (C := RX12) (T := TX12) (N := 95) hx hb hts inX12 hown hK hP 0 rfl rfl 25 (by decide) (hts _ kw_1539) (fun _ h9 => h9) rfl dX12_isCustom_3 ?_
  refine lv_aload_n hx hb dX12_isCustom_6 rfl (lv_at hl 0 rfl) ?_
  refine va_get (D := D) (ci := 12) (v := .int 0) (C := RX12) (T := TX12) (N := 95) hx hb hts inX12 hown hK hP 0 rfl rfl 18 (by decide) (hts _ kw_1532) (fun _ h9 => h9) rfl dX12_isCustom_7 ?_
  refine va_iald hx hb hK hP 9 8 rfl rfl (z_in (by decide)) dX12_isCustom_10 ?_
  refine z_i (v := 0) (by rfl) ?_
  refine lv_iconst (v := 1) hx hb dX12_isCustom_11 (by decide) ?_
  refine lv_isub hx hb dX12_isCustom_12 ?_
  refine z_i (v := (-1)) (by decide) ?_
  refine rd_S (As := [.int p1, .int 0, .int (-1)]) (rest := []) (d := 0) caS_SignalTableModel_310 hx hb hml hown hts hP hK (rM_X12_in p1 0 (-1)) (by decide) rfl hl.1 (Nat.le_of_ble_eq_true rfl) (by decide) dX12_isCustom_13 rfl ?_
  exact rd_z hx hb hr hlocks (by split <;> rfl) (congrArg Value.int (by by_cases s_1 : 0 ≤ p1 ∧ p1 ≤ (-1) <;> simp only [s_1, if_true, if_false, and_self, not_false_eq_true, not_true_eq_false] <;> first | rfl | (exfalso; simp only [Int32.lt_iff_toInt_lt, Int32.le_iff_toInt_le, ← Int32.toInt_inj, ti_m2, ti_m1, ti_0, ti_1, ti_2, ti_3, ti_4, ti_5, ti_6, ti_7, ti_8, ti_10, ti_20] at s_1 <;> omega))) dX12_isCustom_16
set_option maxHeartbeats 4000000 in
set_option maxRecDepth 100000 in
theorem rM_X12_place {l : Launch} {D : va_G} {q : Nat → Nat} {k : Nat → ClassId} {g : Nat → Nat → Int32} {gl : Nat → Nat → Int64} : Rd l yX12_place cX12_place 1 (some .int) 0 D (wM q k g gl) (tyM k) [.ref (q 0)] (.int (-1)) := by
  refine Rd.of (by decide) (Nat.le_of_ble_eq_true rfl) ?_
  intro p e s m below meth c ls hx hb hr hml hown hts hlocks hP hK hl
  have hown : s.vm.findClass "SignalTableModel" = some m.cls := hown
  have hl : lv_has ls 1 [(0, .ref (q 0))] := hl
  refine lv_aload_n hx hb dX12_place_0 rfl (lv_at hl 0 rfl) ?_
  refine va_get (D := D) (ci := 12) (v := .int (-1)) (C := RX12) (T := TX12) (N := 95) hx hb hts inX12 hown hK hP 0 rfl rfl 17 (by decide) (hts _ kw_1531) (fun _ h9 => h9) rfl dX12_place_1 ?_
  exact rd_i hx hb hr hlocks (rfl) dX12_place_4
set_option maxHeartbeats 4000000 in
set_option maxRecDepth 100000 in
theorem rM_X12_lead {l : Launch} {D : va_G} {q : Nat → Nat} {k : Nat → ClassId} {g : Nat → Nat → Int32} {gl : Nat → Nat → Int64} (p1 : Int32) : Rd l yX12_lead cX12_lead 2 (some .boolean) 0 D (wM q k g gl) (tyM k) [.ref (q 0), .int p1] (.int 0) := by
  refine Rd.of (by decide) (Nat.le_of_ble_eq_true rfl) ?_
  intro p e s m below meth c ls hx hb hr hml hown hts hlocks hP hK hl
  have hown : s.vm.findClass "SignalTableModel" = some m.cls := hown
  have hl : lv_has ls 2 [(0, .ref (q 0)), (1, .int p1)] := hl
  refine lv_aload_n hx hb dX12_lead_0 rfl (lv_at hl 0 rfl) ?_
  refine va_get (D := D) (ci := 12) (v := .int 0) (C := RX12) (T := TX12) (N := 95) hx hb hts inX12 hown hK hP 0 rfl rfl 45 (by decide) (hts _ kw_1559) (fun _ h9 => h9) rfl dX12_lead_1 ?_
  refine lv_if_eq (tgt := 21) hx hb dX12_lead_4 (by decide) (fun _ => ?_) (fun h => absurd (by decide) h)
  refine lv_iconst (v := 0) hx hb dX12_lead_21 (by decide) ?_
  exact rd_z hx hb hr hlocks rfl (rfl) dX12_lead_22
set_option maxHeartbeats 4000000 in
set_option maxRecDepth 100000 in
theorem rM_X12_hand {l : Launch} {D : va_G} {q : Nat → Nat} {k : Nat → ClassId} {g : Nat → Nat → Int32} {gl : Nat → Nat → Int64} (p1 p2 : Int32) : Rd l yX12_hand cX12_hand 3 (some .int) 0 D (wM q k g gl) (tyM k) [.ref (q 0), .int p1, .int p2] (.int (-1)) := by
  refine Rd.of (by decide) (Nat.le_of_ble_eq_true rfl) ?_
  intro p e s m below meth c ls hx hb hr hml hown hts hlocks hP hK hl
  have hown : s.vm.findClass "SignalTableModel" = some m.cls := hown
  have hl : lv_has ls 3 [(0, .ref (q 0)), (1, .int p1), (2, .int p2)] := hl
  refine lv_aload_n hx hb dX12_hand_0 rfl (lv_at hl 0 rfl) ?_
  refine va_get (D := D) (ci := 12) (v := .int 0) (C := RX12) (T := TX12) (N := 95) hx hb hts inX12 hown hK hP 0 rfl rfl 45 (by decide) (hts _ kw_1559) (fun _ h9 => h9) rfl dX12_hand_1 ?_
  refine lv_if_eq (tgt := 14) hx hb dX12_hand_4 (by decide) (fun _ => ?_) (fun h => absurd (by decide) h)
  refine lv_iconst (v := (-1)) hx hb dX12_hand_14 (by decide) ?_
  refine lv_goto (tgt := 36) hx hb dX12_hand_15 (by decide) ?_
  exact rd_i hx hb hr hlocks (rfl) dX12_hand_36
set_option maxHeartbeats 4000000 in
set_option maxRecDepth 100000 in
theorem rM_X12_turn {l : Launch} {D : va_G} {q : Nat → Nat} {k : Nat → ClassId} {g : Nat → Nat → Int32} {gl : Nat → Nat → Int64} : Rd l yX12_turn cX12_turn 1 (some .int) 1 D (wM q k g gl) (tyM k) [.ref (q 0)] (.int (-2)) := by
  refine Rd.of (by decide) (Nat.le_of_ble_eq_true rfl) ?_
  intro p e s m below meth c ls hx hb hr hml hown hts hlocks hP hK hl
  have hown : s.vm.findClass "SignalTableModel" = some m.cls := hown
  have hl : lv_has ls 1 [(0, .ref (q 0))] := hl
  refine lv_aload_n hx hb dX12_turn_0 rfl (lv_at hl 0 rfl) ?_
  refine rd_V (As := []) (rest := []) (d := 0) caV_SignalTableModel_396 hx hb hml hown hts hP hK (rM_X12_turnNow) (ci := 12) (q0 := 0) rfl rfl (by decide) rfl hl.1 (Nat.le_of_ble_eq_true rfl) (by decide) dX12_turn_1 rfl ?_
  exact rd_i hx hb hr hlocks (rfl) dX12_turn_4
set_option maxHeartbeats 4000000 in
set_option maxRecDepth 100000 in
theorem rM_X12_may {l : Launch} {D : va_G} {q : Nat → Nat} {k : Nat → ClassId} {g : Nat → Nat → Int32} {gl : Nat → Nat → Int64} : Rd l yX12_may cX12_may 1 (some .int) 2 D (wM q k g gl) (tyM k) [.ref (q 0)] (.int 0) := by
  refine Rd.of (by decide) (Nat.le_of_ble_eq_true rfl) ?_
  intro p e s m below meth c ls hx hb hr hml hown hts hlocks hP hK hl
  have hown : s.vm.findClass "SignalTableModel" = some m.cls := hown
  have hl : lv_has ls 1 [(0, .ref (q 0))] := hl
  refine lv_aload_n hx hb dX12_may_0 rfl (lv_at hl 0 rfl) ?_
  refine rd_V (As := []) (rest := []) (d := 1) caV_SignalTableModel_405 hx hb hml hown hts hP hK (rM_X12_mayNow) (ci := 12) (q0 := 0) rfl rfl (by decide) rfl hl.1 (Nat.le_of_ble_eq_true rfl) (by decide) dX12_may_1 rfl ?_
  exact rd_i hx hb hr hlocks (rfl) dX12_may_4
set_option maxHeartbeats 4000000 in
set_option maxRecDepth 100000 in
theorem rM_X12_play {l : Launch} {D : va_G} {q : Nat → Nat} {k : Nat → ClassId} {g : Nat → Nat → Int32} {gl : Nat → Nat → Int64} (p1 : Int32) : Rd l yX12_play cX12_play 2 (some .int) 2 D (wM q k g gl) (tyM k) [.ref (q 0), .int p1] (.int (-1)) := by
  refine Rd.of (by decide) (Nat.le_of_ble_eq_true rfl) ?_
  intro p e s m below meth c ls hx hb hr hml hown hts hlocks hP hK hl
  have hown : s.vm.findClass "SignalTableModel" = some m.cls := hown
  have hl : lv_has ls 2 [(0, .ref (q 0)), (1, .int p1)] := hl
  refine lv_aload_n hx hb dX12_play_0 rfl (lv_at hl 0 rfl) ?_
  refine lv_iload_n hx hb dX12_play_1 rfl (lv_at hl 1 rfl) ?_
  refine rd_V (As := [.int p1]) (rest := []) (d := 1) caV_SignalTableModel_411 hx hb hml hown hts hP hK (rM_X12_canPlay p1) (ci := 12) (q0 := 0) rfl rfl (by decide) rfl hl.1 (Nat.le_of_ble_eq_true rfl) (by decide) dX12_play_2 rfl ?_
  refine lv_if_ne (tgt := 10) hx hb dX12_play_5 (by decide) (fun h => absurd (by decide) h) (fun _ => ?_)
  refine lv_iconst (v := (-1)) hx hb dX12_play_8 (by decide) ?_
  exact rd_i hx hb hr hlocks (rfl) dX12_play_9
set_option maxHeartbeats 4000000 in
set_option maxRecDepth 100000 in
theorem rM_X12_revoke {l : Launch} {D : va_G} {q : Nat → Nat} {k : Nat → ClassId} {g : Nat → Nat → Int32} {gl : Nat → Nat → Int64} (p1 : Int32) : Rd l yX12_revoke cX12_revoke 2 (some .int) 2 D (wM q k g gl) (tyM k) [.ref (q 0), .int p1] (.int (-1)) := by
  refine Rd.of (by decide) (Nat.le_of_ble_eq_true rfl) ?_
  intro p e s m below meth c ls hx hb hr hml hown hts hlocks hP hK hl
  have hown : s.vm.findClass "SignalTableModel" = some m.cls := hown
  have hl : lv_has ls 2 [(0, .ref (q 0)), (1, .int p1)] := hl
  refine lv_aload_n hx hb dX12_revoke_0 rfl (lv_at hl 0 rfl) ?_
  refine lv_iload_n hx hb dX12_revoke_1 rfl (lv_at hl 1 rfl) ?_
  refine rd_V (As := [.int p1]) (rest := []) (d := 1) caV_SignalTableModel_411 hx hb hml hown hts hP hK (rM_X12_canPlay p1) (ci := 12) (q0 := 0) rfl rfl (by decide) rfl hl.1 (Nat.le_of_ble_eq_true rfl) (by decide) dX12_revoke_2 rfl ?_
  refine lv_if_eq (tgt := 20) hx hb dX12_revoke_5 (by decide) (fun _ => ?_) (fun h => absurd (by decide) h)
  refine lv_iconst (v := (-1)) hx hb dX12_revoke_20 (by decide) ?_
  exact rd_i hx hb hr hlocks (rfl) dX12_revoke_21
set_option maxHeartbeats 4000000 in
set_option maxRecDepth 100000 in
theorem rM_X12_undo {l : Launch} {D : va_G} {q : Nat → Nat} {k : Nat → ClassId} {g : Nat → Nat → Int32} {gl : Nat → Nat → Int64} : Rd l yX12_undo cX12_undo 1 (some .int) 0 D (wM q k g gl) (tyM k) [.ref (q 0)] (.int (-1)) := by
  refine Rd.of (by decide) (Nat.le_of_ble_eq_true rfl) ?_
  intro p e s m below meth c ls hx hb hr hml hown hts hlocks hP hK hl
  have hown : s.vm.findClass "SignalTableModel" = some m.cls := hown
  have hl : lv_has ls 1 [(0, .ref (q 0))] := hl
  refine lv_aload_n hx hb dX12_undo_0 rfl (lv_at hl 0 rfl) ?_
  refine va_get (D := D) (ci := 12) (v := .int 0) (C := RX12) (T := TX12) (N := 95) hx hb hts inX12 hown hK hP 0 rfl rfl 48 (by decide) (hts _ kw_1562) (fun _ h9 => h9) rfl dX12_undo_1 ?_
  refine lv_if_ne (tgt := 9) hx hb dX12_undo_4 (by decide) (fun h => absurd (by decide) h) (fun _ => ?_)
  refine lv_iconst (v := (-1)) hx hb dX12_undo_7 (by decide) ?_
  exact rd_i hx hb hr hlocks (rfl) dX12_undo_8
set_option maxHeartbeats 4000000 in
set_option maxRecDepth 100000 in
theorem rM_X12_card {l : Launch} {D : va_G} {q : Nat → Nat} {k : Nat → ClassId} {g : Nat → Nat → Int32} {gl : Nat → Nat → Int64} (p1 p2 : Int32) : Rd l yX12_card cX12_card 3 (some .int) 0 D (wM q k g gl) (tyM k) [.ref (q 0), .int p1, .int p2] (.int (-1)) := by
  refine Rd.of (by decide) (Nat.le_of_ble_eq_true rfl) ?_
  intro p e s m below meth c ls hx hb hr hml hown hts hlocks hP hK hl
  have hown : s.vm.findClass "SignalTableModel" = some m.cls := hown
  have hl : lv_has ls 3 [(0, .ref (q 0)), (1, .int p1), (2, .int p2)] := hl
  refine lv_aload_n hx hb dX12_card_0 rfl (lv_at hl 0 rfl) ?_
  refine va_get (D := D) (ci := 12) (v := .int 0) (C := RX12) (T := TX12) (N := 95) hx hb hts inX12 hown hK hP 0 rfl rfl 45 (by decide) (hts _ kw_1559) (fun _ h9 => h9) rfl dX12_card_1 ?_
  refine lv_if_eq (tgt := 21) hx hb dX12_card_4 (by decide) (fun _ => ?_) (fun h => absurd (by decide) h)
  refine lv_iconst (v := (-1)) hx hb dX12_card_21 (by decide) ?_
  exact rd_i hx hb hr hlocks (rfl) dX12_card_22
set_option maxHeartbeats 4000000 in
set_option maxRecDepth 100000 in
theorem rM_X12_tricks {l : Launch} {D : va_G} {q : Nat → Nat} {k : Nat → ClassId} {g : Nat → Nat → Int32} {gl : Nat → Nat → Int64} (p1 : Int32) : Rd l yX12_tricks cX12_tricks 4 (some .int) 1 D (wM q k g gl) (tyM k) [.ref (q 0), .int p1] (.int (if 0 ≤ p1 ∧ p1 ≤ 1 then 0 else (-1))) := by
  refine Rd.of (by decide) (Nat.le_of_ble_eq_true rfl) ?_
  intro p e s m below meth c ls hx hb hr hml hown hts hlocks hP hK hl
  have hown : s.vm.findClass "SignalTableModel" = some m.cls := hown
  have hl : lv_has ls 4 [(0, .ref (q 0)), (1, .int p1)] := hl
  refine lv_iload_n hx hb dX12_tricks_0 rfl (lv_at hl 1 rfl) ?_
  refine lv_iconst (v := 0) hx hb dX12_tricks_1 (by decide) ?_
  refine lv_iconst (v := 1) hx hb dX12_tricks_2 (by decide) ?_
  refine rd_S (As := [.int p1, .int 0, .int 1]) (rest := []) (d := 0) caS_SignalTableModel_310 hx hb hml hown hts hP hK (rM_X12_in p1 0 1) (by decide) rfl hl.1 (Nat.le_of_ble_eq_true rfl) (by decide) dX12_tricks_3 rfl ?_
  refine lv_if_ne (tgt := 11) hx hb dX12_tricks_6 (by decide) (fun c_1 => ?_) (fun c_1 => ?_)
  · skip
    have c_1 := z_ifn c_1
    refine lv_iconst (v := 0) hx hb dX12_tricks_11 (by decide) ?_
    refine lv_istore_n (lv' := [(2, .int 0), (0, .ref (q 0)), (1, .int p1)]) hx hb dX12_tricks_12 rfl hl (by decide) rfl (fun ls hl => ?_)
    refine lv_iconst (v := 0) hx hb dX12_tricks_13 (by decide) ?_
    refine lv_istore_n (lv' := [(3, .int 0), (2, .int 0), (0, .ref (q 0)), (1, .int p1)]) hx hb dX12_tricks_14 rfl hl (by decide) rfl (fun ls hl => ?_)
    refine lv_iload_n hx hb dX12_tricks_15 rfl (lv_at hl 0 rfl) ?_
    refine lv_aload_n hx hb dX12_tricks_16 rfl (lv_at hl 2 rfl) ?_
    refine va_get (D := D) (ci := 12) (v := .int 0) (C := RX12) (T := TX12) (N := 95) hx hb hts inX12 hown hK hP 0 rfl rfl 48 (by decide) (hts _ kw_1562) (fun _ h9 => h9) rfl dX12_tricks_17 ?_
    refine lv_iconst (v := 4) hx hb dX12_tricks_20 (by decide) ?_
    refine lv_idiv hx hb dX12_tricks_21 (by decide) ?_
    refine z_i (v := 0) (by decide) ?_
    refine lv_icmp_ge (tgt := 45) hx hb dX12_tricks_22 (by decide) (fun _ => ?_) (fun h => absurd (by decide) h)
    refine lv_iload_n hx hb dX12_tricks_45 rfl (lv_at hl 1 rfl) ?_
    exact rd_i hx hb hr hlocks (congrArg Value.int (by by_cases s_1 : 0 ≤ p1 ∧ p1 ≤ 1 <;> simp only [s_1, if_true, if_false, and_self, not_false_eq_true, not_true_eq_false] <;> first | rfl | (exfalso; simp only [Int32.lt_iff_toInt_lt, Int32.le_iff_toInt_le, ← Int32.toInt_inj, ti_m2, ti_m1, ti_0, ti_1, ti_2, ti_3, ti_4, ti_5, ti_6, ti_7, ti_8, ti_10, ti_20] at s_1 c_1 <;> omega))) dX12_tricks_46
  · skip
    have c_1 := z_if0 c_1
    refine lv_iconst (v := (-1)) hx hb dX12_tricks_9 (by decide) ?_
    exact rd_i hx hb hr hlocks (congrArg Value.int (by by_cases s_1 : 0 ≤ p1 ∧ p1 ≤ 1 <;> simp only [s_1, if_true, if_false, and_self, not_false_eq_true, not_true_eq_false] <;> first | rfl | (exfalso; simp only [Int32.lt_iff_toInt_lt, Int32.le_iff_toInt_le, ← Int32.toInt_inj, ti_m2, ti_m1, ti_0, ti_1, ti_2, ti_3, ti_4, ti_5, ti_6, ti_7, ti_8, ti_10, ti_20] at s_1 c_1 <;> omega))) dX12_tricks_10
set_option maxHeartbeats 4000000 in
set_option maxRecDepth 100000 in
theorem rM_X12_winner {l : Launch} {D : va_G} {q : Nat → Nat} {k : Nat → ClassId} {g : Nat → Nat → Int32} {gl : Nat → Nat → Int64} (p1 : Int32) : Rd l yX12_winner cX12_winner 2 (some .int) 1 D (wM q k g gl) (tyM k) [.ref (q 0), .int p1] (.int (-1)) := by
  refine Rd.of (by decide) (Nat.le_of_ble_eq_true rfl) ?_
  intro p e s m below meth c ls hx hb hr hml hown hts hlocks hP hK hl
  have hown : s.vm.findClass "SignalTableModel" = some m.cls := hown
  have hl : lv_has ls 2 [(0, .ref (q 0)), (1, .int p1)] := hl
  refine lv_iload_n hx hb dX12_winner_0 rfl (lv_at hl 1 rfl) ?_
  refine lv_iconst (v := 0) hx hb dX12_winner_1 (by decide) ?_
  refine lv_aload_n hx hb dX12_winner_2 rfl (lv_at hl 0 rfl) ?_
  refine va_get (D := D) (ci := 12) (v := .int 0) (C := RX12) (T := TX12) (N := 95) hx hb hts inX12 hown hK hP 0 rfl rfl 48 (by decide) (hts _ kw_1562) (fun _ h9 => h9) rfl dX12_winner_3 ?_
  refine lv_iconst (v := 4) hx hb dX12_winner_6 (by decide) ?_
  refine lv_idiv hx hb dX12_winner_7 (by decide) ?_
  refine z_i (v := 0) (by decide) ?_
  refine lv_iconst (v := 1) hx hb dX12_winner_8 (by decide) ?_
  refine lv_isub hx hb dX12_winner_9 ?_
  refine z_i (v := (-1)) (by decide) ?_
  refine rd_S (As := [.int p1, .int 0, .int (-1)]) (rest := []) (d := 0) caS_SignalTableModel_310 hx hb hml hown hts hP hK (rM_X12_in p1 0 (-1)) (by decide) rfl hl.1 (Nat.le_of_ble_eq_true rfl) (by decide) dX12_winner_10 rfl ?_
  refine lv_if_eq (tgt := 24) hx hb dX12_winner_13 (by decide) (fun c_1 => ?_) (fun c_1 => ?_)
  · skip
    have c_1 := z_if0 c_1
    refine lv_iconst (v := (-1)) hx hb dX12_winner_24 (by decide) ?_
    exact rd_i hx hb hr hlocks (rfl) dX12_winner_25
  · skip
    have c_1 := z_ifn c_1
    exfalso
    simp only [Int32.lt_iff_toInt_lt, Int32.le_iff_toInt_le, ← Int32.toInt_inj, ti_m2, ti_m1, ti_0, ti_1, ti_2, ti_3, ti_4, ti_5, ti_6, ti_7, ti_8, ti_10, ti_20] at c_1 <;> omega
set_option maxHeartbeats 4000000 in
set_option maxRecDepth 100000 in
theorem rM_X12_revokes {l : Launch} {D : va_G} {q : Nat → Nat} {k : Nat → ClassId} {g : Nat → Nat → Int32} {gl : Nat → Nat → Int64} (p1 : Int32) : Rd l yX12_revokes cX12_revokes 7 (some .int) 1 D (wM q k g gl) (tyM k) [.ref (q 0), .int p1] (.int (if 0 ≤ p1 ∧ p1 ≤ 1 then 0 else if p1 = 2 then -2 else -1)) := by
  refine Rd.of (by decide) (Nat.le_of_ble_eq_true rfl) ?_
  intro p e s m below meth c ls hx hb hr hml hown hts hlocks hP hK hl
  have hown : s.vm.findClass "SignalTableModel" = some m.cls := hown
  have hl : lv_has ls 7 [(0, .ref (q 0)), (1, .int p1)] := hl
  refine lv_iload_n hx hb dX12_revokes_0 rfl (lv_at hl 1 rfl) ?_
  refine lv_iconst (v := 0) hx hb dX12_revokes_1 (by decide) ?_
  refine lv_iconst (v := 2) hx hb dX12_revokes_2 (by decide) ?_
  refine rd_S (As := [.int p1, .int 0, .int 2]) (rest := []) (d := 0) caS_SignalTableModel_310 hx hb hml hown hts hP hK (rM_X12_in p1 0 2) (by decide) rfl hl.1 (Nat.le_of_ble_eq_true rfl) (by decide) dX12_revokes_3 rfl ?_
  refine lv_if_ne (tgt := 11) hx hb dX12_revokes_6 (by decide) (fun c_1 => ?_) (fun c_1 => ?_)
  · skip
    have c_1 := z_ifn c_1
    refine lv_iconst (v := 0) hx hb dX12_revokes_11 (by decide) ?_
    refine lv_istore_n (lv' := [(2, .int 0), (0, .ref (q 0)), (1, .int p1)]) hx hb dX12_revokes_12 rfl hl (by decide) rfl (fun ls hl => ?_)
    refine lv_iconst (v := 0) hx hb dX12_revokes_13 (by decide) ?_
    refine lv_istore_n (lv' := [(3, .int 0), (2, .int 0), (0, .ref (q 0)), (1, .int p1)]) hx hb dX12_revokes_14 rfl hl (by decide) rfl (fun ls hl => ?_)
    refine lv_bipush (v := (-2)) hx hb dX12_revokes_15 (by decide) ?_
    refine lv_istore (lv' := [(4, .int (-2)), (3, .int 0), (2, .int 0), (0, .ref (q 0)), (1, .int p1)]) hx hb dX12_revokes_17 hl (by decide) rfl (fun ls hl => ?_)
    refine lv_iconst (v := 0) hx hb dX12_revokes_19 (by decide) ?_
    refine lv_istore (lv' := [(5, .int 0), (4, .int (-2)), (3, .int 0), (2, .int 0), (0, .ref (q 0)), (1, .int p1)]) hx hb dX12_revokes_20 hl (by decide) rfl (fun ls hl => ?_)
    refine lv_iload hx hb dX12_revokes_22 (lv_at hl 0 rfl) ?_
    refine lv_aload_n hx hb dX12_revokes_24 rfl (lv_at hl 4 rfl) ?_
    refine va_get (D := D) (ci := 12) (v := .int 0) (C := RX12) (T := TX12) (N := 95) hx hb hts inX12 hown hK hP 0 rfl rfl 48 (by decide) (hts _ kw_1562) (fun _ h9 => h9) rfl dX12_revokes_25 ?_
    refine lv_icmp_ge (tgt := 91) hx hb dX12_revokes_28 (by decide) (fun _ => ?_) (fun h => absurd (by decide) h)
    refine lv_iload_n hx hb dX12_revokes_91 rfl (lv_at hl 5 rfl) ?_
    refine lv_if_ne (tgt := 99) hx hb dX12_revokes_92 (by decide) (fun c_2 => ?_) (fun c_2 => ?_)
    · skip
      refine lv_iload_n hx hb dX12_revokes_99 rfl (lv_at hl 5 rfl) ?_
      refine lv_iconst (v := 1) hx hb dX12_revokes_100 (by decide) ?_
      refine lv_icmp_ne (tgt := 108) hx hb dX12_revokes_101 (by decide) (fun c_3 => ?_) (fun c_3 => ?_)
      · skip
        refine lv_iload hx hb dX12_revokes_108 (lv_at hl 1 rfl) ?_
        exact rd_i hx hb hr hlocks (congrArg Value.int (by by_cases s_1 : 0 ≤ p1 ∧ p1 ≤ 1 <;> by_cases s_2 : p1 = 2 <;> simp only [s_1, s_2, if_true, if_false, and_self, not_false_eq_true, not_true_eq_false] <;> first | rfl | (exfalso; simp only [Int32.lt_iff_toInt_lt, Int32.le_iff_toInt_le, ← Int32.toInt_inj, ti_m2, ti_m1, ti_0, ti_1, ti_2, ti_3, ti_4, ti_5, ti_6, ti_7, ti_8, ti_10, ti_20] at s_1 s_2 c_1 c_2 c_3 <;> omega))) dX12_revokes_110
      · skip
        refine lv_iload_n hx hb dX12_revokes_104 rfl (lv_at hl 2 rfl) ?_
        refine lv_goto (tgt := 110) hx hb dX12_revokes_105 (by decide) ?_
        exact rd_i hx hb hr hlocks (congrArg Value.int (by by_cases s_1 : 0 ≤ p1 ∧ p1 ≤ 1 <;> by_cases s_2 : p1 = 2 <;> simp only [s_1, s_2, if_true, if_false, and_self, not_false_eq_true, not_true_eq_false] <;> first | rfl | (exfalso; simp only [Int32.lt_iff_toInt_lt, Int32.le_iff_toInt_le, ← Int32.toInt_inj, ti_m2, ti_m1, ti_0, ti_1, ti_2, ti_3, ti_4, ti_5, ti_6, ti_7, ti_8, ti_10, ti_20] at s_1 s_2 c_1 c_2 c_3 <;> omega))) dX12_revokes_110
    · skip
      refine lv_iload_n hx hb dX12_revokes_95 rfl (lv_at hl 3 rfl) ?_
      refine lv_goto (tgt := 110) hx hb dX12_revokes_96 (by decide) ?_
      exact rd_i hx hb hr hlocks (congrArg Value.int (by by_cases s_1 : 0 ≤ p1 ∧ p1 ≤ 1 <;> by_cases s_2 : p1 = 2 <;> simp only [s_1, s_2, if_true, if_false, and_self, not_false_eq_true, not_true_eq_false] <;> first | rfl | (exfalso; simp only [Int32.lt_iff_toInt_lt, Int32.le_iff_toInt_le, ← Int32.toInt_inj, ti_m2, ti_m1, ti_0, ti_1, ti_2, ti_3, ti_4, ti_5, ti_6, ti_7, ti_8, ti_10, ti_20] at s_1 s_2 c_1 c_2 <;> omega))) dX12_revokes_110
  · skip
    have c_1 := z_if0 c_1
    refine lv_iconst (v := (-1)) hx hb dX12_revokes_9 (by decide) ?_
    exact rd_i hx hb hr hlocks (congrArg Value.int (by by_cases s_1 : 0 ≤ p1 ∧ p1 ≤ 1 <;> by_cases s_2 : p1 = 2 <;> simp only [s_1, s_2, if_true, if_false, and_self, not_false_eq_true, not_true_eq_false] <;> first | rfl | (exfalso; simp only [Int32.lt_iff_toInt_lt, Int32.le_iff_toInt_le, ← Int32.toInt_inj, ti_m2, ti_m1, ti_0, ti_1, ti_2, ti_3, ti_4, ti_5, ti_6, ti_7, ti_8, ti_10, ti_20] at s_1 s_2 c_1 <;> omega))) dX12_revokes_10
set_option maxHeartbeats 4000000 in
set_option maxRecDepth 100000 in
theorem rM_X12_says {l : Launch} {D : va_G} {q : Nat → Nat} {k : Nat → ClassId} {g : Nat → Nat → Int32} {gl : Nat → Nat → Int64} (p1 p2 p3 : Int32) : Rd l yX12_says cX12_says 6 (some .int) 0 D (wM q k g gl) (tyM k) [.ref (q 0), .int p1, .int p2, .int p3] (.int (-1)) := by
  refine Rd.of (by decide) (Nat.le_of_ble_eq_true rfl) ?_
  intro p e s m below meth c ls hx hb hr hml hown hts hlocks hP hK hl
  have hown : s.vm.findClass "SignalTableModel" = some m.cls := hown
  have hl : lv_has ls 6 [(0, .ref (q 0)), (1, .int p1), (2, .int p2), (3, .int p3)] := hl
  refine lv_aload_n hx hb dX12_says_0 rfl (lv_at hl 0 rfl) ?_
  refine va_get (D := D) (ci := 12) (v := .int 0) (C := RX12) (T := TX12) (N := 95) hx hb hts inX12 hown hK hP 0 rfl rfl 45 (by decide) (hts _ kw_1559) (fun _ h9 => h9) rfl dX12_says_1 ?_
  refine lv_if_eq (tgt := 38) hx hb dX12_says_4 (by decide) (fun _ => ?_) (fun h => absurd (by decide) h)
  refine lv_iconst (v := (-1)) hx hb dX12_says_38 (by decide) ?_
  exact rd_i hx hb hr hlocks (rfl) dX12_says_39
set_option maxHeartbeats 4000000 in
set_option maxRecDepth 100000 in
theorem rM_X12_canBe {l : Launch} {D : va_G} {q : Nat → Nat} {k : Nat → ClassId} {g : Nat → Nat → Int32} {gl : Nat → Nat → Int64} (p1 p2 : Int32) : Rd l yX12_canBe cX12_canBe 3 (some .int) 1 D (wM q k g gl) (tyM k) [.ref (q 0), .int p1, .int p2] (.int (-1)) := by
  refine Rd.of (by decide) (Nat.le_of_ble_eq_true rfl) ?_
  intro p e s m below meth c ls hx hb hr hml hown hts hlocks hP hK hl
  have hown : s.vm.findClass "SignalTableModel" = some m.cls := hown
  have hl : lv_has ls 3 [(0, .ref (q 0)), (1, .int p1), (2, .int p2)] := hl
  refine lv_aload_n hx hb dX12_canBe_0 rfl (lv_at hl 0 rfl) ?_
  refine lv_iload_n hx hb dX12_canBe_1 rfl (lv_at hl 1 rfl) ?_
  refine lv_iload_n hx hb dX12_canBe_2 rfl (lv_at hl 2 rfl) ?_
  refine rd_V (As := [.int p1, .int p2]) (rest := []) (d := 0) caV_SignalTableModel_502 hx hb hml hown hts hP hK (rM_X12_canAsk p1 p2) (ci := 12) (q0 := 0) rfl rfl (by decide) rfl hl.1 (Nat.le_of_ble_eq_true rfl) (by decide) dX12_canBe_3 rfl ?_
  refine lv_if_eq (tgt := 22) hx hb dX12_canBe_6 (by decide) (fun _ => ?_) (fun h => absurd (by decide) h)
  refine lv_iconst (v := (-1)) hx hb dX12_canBe_22 (by decide) ?_
  exact rd_i hx hb hr hlocks (rfl) dX12_canBe_23
set_option maxHeartbeats 4000000 in
set_option maxRecDepth 100000 in
theorem rM_X12_after {l : Launch} {D : va_G} {q : Nat → Nat} {k : Nat → ClassId} {g : Nat → Nat → Int32} {gl : Nat → Nat → Int64} (p1 p2 p3 : Int32) : Rd l yX12_after cX12_after 4 (some .int) 1 D (wM q k g gl) (tyM k) [.ref (q 0), .int p1, .int p2, .int p3] (.int (-1)) := by
  refine Rd.of (by decide) (Nat.le_of_ble_eq_true rfl) ?_
  intro p e s m below meth c ls hx hb hr hml hown hts hlocks hP hK hl
  have hown : s.vm.findClass "SignalTableModel" = some m.cls := hown
  have hl : lv_has ls 4 [(0, .ref (q 0)), (1, .int p1), (2, .int p2), (3, .int p3)] := hl
  refine lv_aload_n hx hb dX12_after_0 rfl (lv_at hl 0 rfl) ?_
  refine lv_iload_n hx hb dX12_after_1 rfl (lv_at hl 1 rfl) ?_
  refine lv_iload_n hx hb dX12_after_2 rfl (lv_at hl 3 rfl) ?_
  refine rd_V (As := [.int p1, .int p3]) (rest := []) (d := 0) caV_SignalTableModel_502 hx hb hml hown hts hP hK (rM_X12_canAsk p1 p3) (ci := 12) (q0 := 0) rfl rfl (by decide) rfl hl.1 (Nat.le_of_ble_eq_true rfl) (by decide) dX12_after_3 rfl ?_
  refine lv_if_eq (tgt := 31) hx hb dX12_after_6 (by decide) (fun _ => ?_) (fun h => absurd (by decide) h)
  refine lv_iconst (v := (-1)) hx hb dX12_after_31 (by decide) ?_
  exact rd_i hx hb hr hlocks (rfl) dX12_after_32
set_option maxHeartbeats 4000000 in
set_option maxRecDepth 100000 in
theorem rM_X12_had {l : Launch} {D : va_G} {q : Nat → Nat} {k : Nat → ClassId} {g : Nat → Nat → Int32} {gl : Nat → Nat → Int64} (p1 p2 p3 p4 : Int32) : Rd l yX12_had cX12_had 6 (some .int) 1 D (wM q k g gl) (tyM k) [.ref (q 0), .int p1, .int p2, .int p3, .int p4] (.int (-1)) := by
  refine Rd.of (by decide) (Nat.le_of_ble_eq_true rfl) ?_
  intro p e s m below meth c ls hx hb hr hml hown hts hlocks hP hK hl
  have hown : s.vm.findClass "SignalTableModel" = some m.cls := hown
  have hl : lv_has ls 6 [(0, .ref (q 0)), (1, .int p1), (2, .int p2), (3, .int p3), (4, .int p4)] := hl
  refine lv_aload_n hx hb dX12_had_0 rfl (lv_at hl 0 rfl) ?_
  refine lv_iload_n hx hb dX12_had_1 rfl (lv_at hl 1 rfl) ?_
  refine lv_iload hx hb dX12_had_2 (lv_at hl 4 rfl) ?_
  refine rd_V (As := [.int p1, .int p4]) (rest := []) (d := 0) caV_SignalTableModel_502 hx hb hml hown hts hP hK (rM_X12_canAsk p1 p4) (ci := 12) (q0 := 0) rfl rfl (by decide) rfl hl.1 (Nat.le_of_ble_eq_true rfl) (by decide) dX12_had_4 rfl ?_
  refine lv_if_eq (tgt := 30) hx hb dX12_had_7 (by decide) (fun _ => ?_) (fun h => absurd (by decide) h)
  refine lv_iconst (v := (-1)) hx hb dX12_had_30 (by decide) ?_
  exact rd_i hx hb hr hlocks (rfl) dX12_had_31
set_option maxHeartbeats 4000000 in
set_option maxRecDepth 100000 in
theorem rM_X12_sure {l : Launch} {D : va_G} {q : Nat → Nat} {k : Nat → ClassId} {g : Nat → Nat → Int32} {gl : Nat → Nat → Int64} (p1 p2 : Int32) : Rd l yX12_sure cX12_sure 3 (some .int) 1 D (wM q k g gl) (tyM k) [.ref (q 0), .int p1, .int p2] (.int (-1)) := by
  refine Rd.of (by decide) (Nat.le_of_ble_eq_true rfl) ?_
  intro p e s m below meth c ls hx hb hr hml hown hts hlocks hP hK hl
  have hown : s.vm.findClass "SignalTableModel" = some m.cls := hown
  have hl : lv_has ls 3 [(0, .ref (q 0)), (1, .int p1), (2, .int p2)] := hl
  refine lv_aload_n hx hb dX12_sure_0 rfl (lv_at hl 0 rfl) ?_
  refine lv_iload_n hx hb dX12_sure_1 rfl (lv_at hl 1 rfl) ?_
  refine lv_iload_n hx hb dX12_sure_2 rfl (lv_at hl 2 rfl) ?_
  refine rd_V (As := [.int p1, .int p2]) (rest := []) (d := 0) caV_SignalTableModel_502 hx hb hml hown hts hP hK (rM_X12_canAsk p1 p2) (ci := 12) (q0 := 0) rfl rfl (by decide) rfl hl.1 (Nat.le_of_ble_eq_true rfl) (by decide) dX12_sure_3 rfl ?_
  refine lv_if_ne (tgt := 11) hx hb dX12_sure_6 (by decide) (fun h => absurd (by decide) h) (fun _ => ?_)
  refine lv_iconst (v := (-1)) hx hb dX12_sure_9 (by decide) ?_
  exact rd_i hx hb hr hlocks (rfl) dX12_sure_10
set_option maxHeartbeats 4000000 in
set_option maxRecDepth 100000 in
theorem rM_X12_knows {l : Launch} {D : va_G} {q : Nat → Nat} {k : Nat → ClassId} {g : Nat → Nat → Int32} {gl : Nat → Nat → Int64} (p1 p2 p3 p4 : Int32) : Rd l yX12_knows cX12_knows 8 (some .int) 1 D (wM q k g gl) (tyM k) [.ref (q 0), .int p1, .int p2, .int p3, .int p4] (.int (-1)) := by
  refine Rd.of (by decide) (Nat.le_of_ble_eq_true rfl) ?_
  intro p e s m below meth c ls hx hb hr hml hown hts hlocks hP hK hl
  have hown : s.vm.findClass "SignalTableModel" = some m.cls := hown
  have hl : lv_has ls 8 [(0, .ref (q 0)), (1, .int p1), (2, .int p2), (3, .int p3), (4, .int p4)] := hl
  refine lv_aload_n hx hb dX12_knows_0 rfl (lv_at hl 0 rfl) ?_
  refine lv_iload_n hx hb dX12_knows_1 rfl (lv_at hl 1 rfl) ?_
  refine lv_iload hx hb dX12_knows_2 (lv_at hl 4 rfl) ?_
  refine rd_V (As := [.int p1, .int p4]) (rest := []) (d := 0) caV_SignalTableModel_502 hx hb hml hown hts hP hK (rM_X12_canAsk p1 p4) (ci := 12) (q0 := 0) rfl rfl (by decide) rfl hl.1 (Nat.le_of_ble_eq_true rfl) (by decide) dX12_knows_4 rfl ?_
  refine lv_if_eq (tgt := 30) hx hb dX12_knows_7 (by decide) (fun _ => ?_) (fun h => absurd (by decide) h)
  refine lv_iconst (v := (-1)) hx hb dX12_knows_30 (by decide) ?_
  exact rd_i hx hb hr hlocks (rfl) dX12_knows_31
set_option maxHeartbeats 4000000 in
set_option maxRecDepth 100000 in
theorem rM_X12_open {l : Launch} {D : va_G} {q : Nat → Nat} {k : Nat → ClassId} {g : Nat → Nat → Int32} {gl : Nat → Nat → Int64} : Rd l yX12_open cX12_open 1 (some .int) 0 D (wM q k g gl) (tyM k) [.ref (q 0)] (.int (-2)) := by
  refine Rd.of (by decide) (Nat.le_of_ble_eq_true rfl) ?_
  intro p e s m below meth c ls hx hb hr hml hown hts hlocks hP hK hl
  have hown : s.vm.findClass "SignalTableModel" = some m.cls := hown
  have hl : lv_has ls 1 [(0, .ref (q 0))] := hl
  refine lv_aload_n hx hb dX12_open_0 rfl (lv_at hl 0 rfl) ?_
  refine va_get (D := D) (ci := 12) (v := .int 0) (C := RX12) (T := TX12) (N := 95) hx hb hts inX12 hown hK hP 0 rfl rfl 45 (by decide) (hts _ kw_1559) (fun _ h9 => h9) rfl dX12_open_1 ?_
  refine lv_if_eq (tgt := 14) hx hb dX12_open_4 (by decide) (fun _ => ?_) (fun h => absurd (by decide) h)
  refine lv_bipush (v := (-2)) hx hb dX12_open_14 (by decide) ?_
  exact rd_i hx hb hr hlocks (rfl) dX12_open_16
set_option maxHeartbeats 4000000 in
set_option maxRecDepth 100000 in
theorem rM_X12_line {l : Launch} {D : va_G} {q : Nat → Nat} {k : Nat → ClassId} {g : Nat → Nat → Int32} {gl : Nat → Nat → Int64} (p1 : Int32) : Rd l yX12_line cX12_line 8 (some .int) 0 D (wM q k g gl) (tyM k) [.ref (q 0), .int p1] (.int (-1)) := by
  refine Rd.of (by decide) (Nat.le_of_ble_eq_true rfl) ?_
  intro p e s m below meth c ls hx hb hr hml hown hts hlocks hP hK hl
  have hown : s.vm.findClass "SignalTableModel" = some m.cls := hown
  have hl : lv_has ls 8 [(0, .ref (q 0)), (1, .int p1)] := hl
  refine lv_aload_n hx hb dX12_line_0 rfl (lv_at hl 0 rfl) ?_
  refine va_get (D := D) (ci := 12) (v := .int 0) (C := RX12) (T := TX12) (N := 95) hx hb hts inX12 hown hK hP 0 rfl rfl 45 (by decide) (hts _ kw_1559) (fun _ h9 => h9) rfl dX12_line_1 ?_
  refine lv_if_eq (tgt := 24) hx hb dX12_line_4 (by decide) (fun _ => ?_) (fun h => absurd (by decide) h)
  refine lv_iconst (v := (-1)) hx hb dX12_line_24 (by decide) ?_
  exact rd_i hx hb hr hlocks (rfl) dX12_line_25
set_option maxHeartbeats 4000000 in
set_option maxRecDepth 100000 in
theorem rM_X12_mean {l : Launch} {D : va_G} {q : Nat → Nat} {k : Nat → ClassId} {g : Nat → Nat → Int32} {gl : Nat → Nat → Int64} (p1 p2 : Int32) : Rd l yX12_mean cX12_mean 3 (some .long) 2 D (wM q k g gl) (tyM k) [.ref (q 0), .int p1, .int p2] (.long (-1)) := by
  refine Rd.of (by decide) (Nat.le_of_ble_eq_true rfl) ?_
  intro p e s m below meth c ls hx hb hr hml hown hts hlocks hP hK hl
  have hown : s.vm.findClass "SignalTableModel" = some m.cls := hown
  have hl : lv_has ls 3 [(0, .ref (q 0)), (1, .int p1), (2, .int p2)] := hl
  refine lv_aload_n hx hb dX12_mean_0 rfl (lv_at hl 0 rfl) ?_
  refine lv_iload_n hx hb dX12_mean_1 rfl (lv_at hl 2 rfl) ?_
  refine rd_V (As := [.int p2]) (rest := []) (d := 1) caV_SignalTableModel_572 hx hb hml hown hts hP hK (rM_X12_canMean p2) (ci := 12) (q0 := 0) rfl rfl (by decide) rfl hl.1 (Nat.le_of_ble_eq_true rfl) (by decide) dX12_mean_2 rfl ?_
  refine lv_if_eq (tgt := 27) hx hb dX12_mean_5 (by decide) (fun _ => ?_) (fun h => absurd (by decide) h)
  refine lv_ldc2 (v := (-1)) hx hb hown (hts _ kw_2230) dX12_mean_27 ?_
  exact rd_l hx hb hr hlocks (rfl) dX12_mean_30
set_option maxHeartbeats 4000000 in
set_option maxRecDepth 100000 in
theorem rM_X12_choice {l : Launch} {D : va_G} {q : Nat → Nat} {k : Nat → ClassId} {g : Nat → Nat → Int32} {gl : Nat → Nat → Int64} (p1 : Int32) : Rd l yX12_choice cX12_choice 2 (some .int) 2 D (wM q k g gl) (tyM k) [.ref (q 0), .int p1] (.int (-1)) := by
  refine Rd.of (by decide) (Nat.le_of_ble_eq_true rfl) ?_
  intro p e s m below meth c ls hx hb hr hml hown hts hlocks hP hK hl
  have hown : s.vm.findClass "SignalTableModel" = some m.cls := hown
  have hl : lv_has ls 2 [(0, .ref (q 0)), (1, .int p1)] := hl
  refine lv_aload_n hx hb dX12_choice_0 rfl (lv_at hl 0 rfl) ?_
  refine lv_iload_n hx hb dX12_choice_1 rfl (lv_at hl 1 rfl) ?_
  refine rd_V (As := [.int p1]) (rest := []) (d := 1) caV_SignalTableModel_572 hx hb hml hown hts hP hK (rM_X12_canMean p1) (ci := 12) (q0 := 0) rfl rfl (by decide) rfl hl.1 (Nat.le_of_ble_eq_true rfl) (by decide) dX12_choice_2 rfl ?_
  refine lv_if_ne (tgt := 10) hx hb dX12_choice_5 (by decide) (fun h => absurd (by decide) h) (fun _ => ?_)
  refine lv_iconst (v := (-1)) hx hb dX12_choice_8 (by decide) ?_
  exact rd_i hx hb hr hlocks (rfl) dX12_choice_9
set_option maxHeartbeats 4000000 in
set_option maxRecDepth 100000 in
theorem rM_X12_spread {l : Launch} {D : va_G} {q : Nat → Nat} {k : Nat → ClassId} {g : Nat → Nat → Int32} {gl : Nat → Nat → Int64} (p1 p2 p3 : Int32) : Rd l yX12_spread cX12_spread 4 (some .int) 2 D (wM q k g gl) (tyM k) [.ref (q 0), .int p1, .int p2, .int p3] (.int (-1)) := by
  refine Rd.of (by decide) (Nat.le_of_ble_eq_true rfl) ?_
  intro p e s m below meth c ls hx hb hr hml hown hts hlocks hP hK hl
  have hown : s.vm.findClass "SignalTableModel" = some m.cls := hown
  have hl : lv_has ls 4 [(0, .ref (q 0)), (1, .int p1), (2, .int p2), (3, .int p3)] := hl
  refine lv_aload_n hx hb dX12_spread_0 rfl (lv_at hl 0 rfl) ?_
  refine lv_iload_n hx hb dX12_spread_1 rfl (lv_at hl 2 rfl) ?_
  refine rd_V (As := [.int p2]) (rest := []) (d := 1) caV_SignalTableModel_572 hx hb hml hown hts hP hK (rM_X12_canMean p2) (ci := 12) (q0 := 0) rfl rfl (by decide) rfl hl.1 (Nat.le_of_ble_eq_true rfl) (by decide) dX12_spread_2 rfl ?_
  refine lv_if_eq (tgt := 36) hx hb dX12_spread_5 (by decide) (fun _ => ?_) (fun h => absurd (by decide) h)
  refine lv_iconst (v := (-1)) hx hb dX12_spread_36 (by decide) ?_
  exact rd_i hx hb hr hlocks (rfl) dX12_spread_37
set_option maxHeartbeats 4000000 in
set_option maxRecDepth 100000 in
theorem rM_X12_safe {l : Launch} {D : va_G} {q : Nat → Nat} {k : Nat → ClassId} {g : Nat → Nat → Int32} {gl : Nat → Nat → Int64} (p1 p2 : Int32) : Rd l yX12_safe cX12_safe 5 (some .int) 2 D (wM q k g gl) (tyM k) [.ref (q 0), .int p1, .int p2] (.int (-1)) := by
  refine Rd.of (by decide) (Nat.le_of_ble_eq_true rfl) ?_
  intro p e s m below meth c ls hx hb hr hml hown hts hlocks hP hK hl
  have hown : s.vm.findClass "SignalTableModel" = some m.cls := hown
  have hl : lv_has ls 5 [(0, .ref (q 0)), (1, .int p1), (2, .int p2)] := hl
  refine lv_aload_n hx hb dX12_safe_0 rfl (lv_at hl 0 rfl) ?_
  refine lv_iload_n hx hb dX12_safe_1 rfl (lv_at hl 1 rfl) ?_
  refine rd_V (As := [.int p1]) (rest := []) (d := 1) caV_SignalTableModel_572 hx hb hml hown hts hP hK (rM_X12_canMean p1) (ci := 12) (q0 := 0) rfl rfl (by decide) rfl hl.1 (Nat.le_of_ble_eq_true rfl) (by decide) dX12_safe_2 rfl ?_
  refine lv_if_eq (tgt := 17) hx hb dX12_safe_5 (by decide) (fun _ => ?_) (fun h => absurd (by decide) h)
  refine lv_iconst (v := (-1)) hx hb dX12_safe_17 (by decide) ?_
  exact rd_i hx hb hr hlocks (rfl) dX12_safe_18
set_option maxHeartbeats 4000000 in
set_option maxRecDepth 100000 in
theorem rM_X12_loss {l : Launch} {D : va_G} {q : Nat → Nat} {k : Nat → ClassId} {g : Nat → Nat → Int32} {gl : Nat → Nat → Int64} (p1 : Int32) : Rd l yX12_loss cX12_loss 2 (some .int) 2 D (wM q k g gl) (tyM k) [.ref (q 0), .int p1] (.int (-1)) := by
  refine Rd.of (by decide) (Nat.le_of_ble_eq_true rfl) ?_
  intro p e s m below meth c ls hx hb hr hml hown hts hlocks hP hK hl
  have hown : s.vm.findClass "SignalTableModel" = some m.cls := hown
  have hl : lv_has ls 2 [(0, .ref (q 0)), (1, .int p1)] := hl
  refine lv_aload_n hx hb dX12_loss_0 rfl (lv_at hl 0 rfl) ?_
  refine lv_iload_n hx hb dX12_loss_1 rfl (lv_at hl 1 rfl) ?_
  refine rd_V (As := [.int p1]) (rest := []) (d := 1) caV_SignalTableModel_572 hx hb hml hown hts hP hK (rM_X12_canMean p1) (ci := 12) (q0 := 0) rfl rfl (by decide) rfl hl.1 (Nat.le_of_ble_eq_true rfl) (by decide) dX12_loss_2 rfl ?_
  refine lv_if_ne (tgt := 10) hx hb dX12_loss_5 (by decide) (fun h => absurd (by decide) h) (fun _ => ?_)
  refine lv_iconst (v := (-1)) hx hb dX12_loss_8 (by decide) ?_
  exact rd_i hx hb hr hlocks (rfl) dX12_loss_9
set_option maxHeartbeats 4000000 in
set_option maxRecDepth 100000 in
theorem rM_X12_differs {l : Launch} {D : va_G} {q : Nat → Nat} {k : Nat → ClassId} {g : Nat → Nat → Int32} {gl : Nat → Nat → Int64} (p1 : Int32) : Rd l yX12_differs cX12_differs 5 (some .int) 2 D (wM q k g gl) (tyM k) [.ref (q 0), .int p1] (.int (-1)) := by
  refine Rd.of (by decide) (Nat.le_of_ble_eq_true rfl) ?_
  intro p e s m below meth c ls hx hb hr hml hown hts hlocks hP hK hl
  have hown : s.vm.findClass "SignalTableModel" = some m.cls := hown
  have hl : lv_has ls 5 [(0, .ref (q 0)), (1, .int p1)] := hl
  refine lv_aload_n hx hb dX12_differs_0 rfl (lv_at hl 0 rfl) ?_
  refine lv_iload_n hx hb dX12_differs_1 rfl (lv_at hl 1 rfl) ?_
  refine rd_V (As := [.int p1]) (rest := []) (d := 1) caV_SignalTableModel_572 hx hb hml hown hts hP hK (rM_X12_canMean p1) (ci := 12) (q0 := 0) rfl rfl (by decide) rfl hl.1 (Nat.le_of_ble_eq_true rfl) (by decide) dX12_differs_2 rfl ?_
  refine lv_if_ne (tgt := 10) hx hb dX12_differs_5 (by decide) (fun h => absurd (by decide) h) (fun _ => ?_)
  refine lv_iconst (v := (-1)) hx hb dX12_differs_8 (by decide) ?_
  exact rd_i hx hb hr hlocks (rfl) dX12_differs_9
set_option maxHeartbeats 4000000 in
set_option maxRecDepth 100000 in
theorem rM_X12_lies {l : Launch} {D : va_G} {q : Nat → Nat} {k : Nat → ClassId} {g : Nat → Nat → Int32} {gl : Nat → Nat → Int64} (p1 : Int32) : Rd l yX12_lies cX12_lies 2 (some .int) 1 D (wM q k g gl) (tyM k) [.ref (q 0), .int p1] (.int (-1)) := by
  refine Rd.of (by decide) (Nat.le_of_ble_eq_true rfl) ?_
  intro p e s m below meth c ls hx hb hr hml hown hts hlocks hP hK hl
  have hown : s.vm.findClass "SignalTableModel" = some m.cls := hown
  have hl : lv_has ls 2 [(0, .ref (q 0)), (1, .int p1)] := hl
  refine lv_aload_n hx hb dX12_lies_0 rfl (lv_at hl 0 rfl) ?_
  refine rd_V (As := []) (rest := []) (d := 0) caV_SignalTableModel_396 hx hb hml hown hts hP hK (rM_X12_turnNow) (ci := 12) (q0 := 0) rfl rfl (by decide) rfl hl.1 (Nat.le_of_ble_eq_true rfl) (by decide) dX12_lies_1 rfl ?_
  refine lv_if_lt (tgt := 26) hx hb dX12_lies_4 (by decide) (fun _ => ?_) (fun h => absurd (by decide) h)
  refine lv_iconst (v := (-1)) hx hb dX12_lies_26 (by decide) ?_
  exact rd_i hx hb hr hlocks (rfl) dX12_lies_27
set_option maxHeartbeats 4000000 in
set_option maxRecDepth 100000 in
theorem rM_X12_worth {l : Launch} {D : va_G} {q : Nat → Nat} {k : Nat → ClassId} {g : Nat → Nat → Int32} {gl : Nat → Nat → Int64} (p1 : Int32) : Rd l yX12_worth cX12_worth 4 (some .long) 2 D (wM q k g gl) (tyM k) [.ref (q 0), .int p1] (.long (-1000000)) := by
  refine Rd.of (by decide) (Nat.le_of_ble_eq_true rfl) ?_
  intro p e s m below meth c ls hx hb hr hml hown hts hlocks hP hK hl
  have hown : s.vm.findClass "SignalTableModel" = some m.cls := hown
  have hl : lv_has ls 4 [(0, .ref (q 0)), (1, .int p1)] := hl
  refine lv_aload_n hx hb dX12_worth_0 rfl (lv_at hl 0 rfl) ?_
  refine lv_iload_n hx hb dX12_worth_1 rfl (lv_at hl 1 rfl) ?_
  refine rd_V (As := [.int p1]) (rest := []) (d := 1) caV_SignalTableModel_572 hx hb hml hown hts hP hK (rM_X12_canMean p1) (ci := 12) (q0 := 0) rfl rfl (by decide) rfl hl.1 (Nat.le_of_ble_eq_true rfl) (by decide) dX12_worth_2 rfl ?_
  refine lv_if_eq (tgt := 15) hx hb dX12_worth_5 (by decide) (fun _ => ?_) (fun h => absurd (by decide) h)
  refine lv_ldc2 (v := (-1000000)) hx hb hown (hts _ kw_2287) dX12_worth_15 ?_
  exact rd_l hx hb hr hlocks (rfl) dX12_worth_18
set_option maxHeartbeats 4000000 in
set_option maxRecDepth 100000 in
theorem rM_X12_gain {l : Launch} {D : va_G} {q : Nat → Nat} {k : Nat → ClassId} {g : Nat → Nat → Int32} {gl : Nat → Nat → Int64} (p1 p2 p3 : Int32) : Rd l yX12_gain cX12_gain 5 (some .int) 2 D (wM q k g gl) (tyM k) [.ref (q 0), .int p1, .int p2, .int p3] (.int (-1000)) := by
  refine Rd.of (by decide) (Nat.le_of_ble_eq_true rfl) ?_
  intro p e s m below meth c ls hx hb hr hml hown hts hlocks hP hK hl
  have hown : s.vm.findClass "SignalTableModel" = some m.cls := hown
  have hl : lv_has ls 5 [(0, .ref (q 0)), (1, .int p1), (2, .int p2), (3, .int p3)] := hl
  refine lv_aload_n hx hb dX12_gain_0 rfl (lv_at hl 0 rfl) ?_
  refine lv_iload_n hx hb dX12_gain_1 rfl (lv_at hl 1 rfl) ?_
  refine rd_V (As := [.int p1]) (rest := []) (d := 1) caV_SignalTableModel_455 hx hb hml hown hts hP hK (rM_X12_areCustoms p1) (ci := 12) (q0 := 0) rfl rfl (by decide) rfl hl.1 (Nat.le_of_ble_eq_true rfl) (by decide) dX12_gain_2 rfl ?_
  refine lv_if_eq (tgt := 16) hx hb dX12_gain_5 (by decide) (fun c_1 => ?_) (fun c_1 => ?_)
  · skip
    have c_1 := z_if0 c_1
    refine lv_sipush (v := (-1000)) hx hb dX12_gain_16 (by decide) ?_
    exact rd_i hx hb hr hlocks (rfl) dX12_gain_19
  · skip
    have c_1 := z_ifn c_1
    refine lv_aload_n hx hb dX12_gain_8 rfl (lv_at hl 0 rfl) ?_
    refine lv_iload_n hx hb dX12_gain_9 rfl (lv_at hl 3 rfl) ?_
    refine rd_V (As := [.int p3]) (rest := []) (d := 1) caV_SignalTableModel_614 hx hb hml hown hts hP hK (rM_X12_canGain p3) (ci := 12) (q0 := 0) rfl rfl (by decide) rfl hl.1 (Nat.le_of_ble_eq_true rfl) (by decide) dX12_gain_10 rfl ?_
    refine lv_if_ne (tgt := 20) hx hb dX12_gain_13 (by decide) (fun h => absurd (by decide) h) (fun _ => ?_)
    refine lv_sipush (v := (-1000)) hx hb dX12_gain_16 (by decide) ?_
    exact rd_i hx hb hr hlocks (rfl) dX12_gain_19
set_option maxHeartbeats 4000000 in
set_option maxRecDepth 100000 in
theorem rM_X12_bestSet {l : Launch} {D : va_G} {q : Nat → Nat} {k : Nat → ClassId} {g : Nat → Nat → Int32} {gl : Nat → Nat → Int64} (p1 p2 p3 : Int32) : Rd l yX12_bestSet cX12_bestSet 9 (some .int) 2 D (wM q k g gl) (tyM k) [.ref (q 0), .int p1, .int p2, .int p3] (.int (-1000)) := by
  refine Rd.of (by decide) (Nat.le_of_ble_eq_true rfl) ?_
  intro p e s m below meth c ls hx hb hr hml hown hts hlocks hP hK hl
  have hown : s.vm.findClass "SignalTableModel" = some m.cls := hown
  have hl : lv_has ls 9 [(0, .ref (q 0)), (1, .int p1), (2, .int p2), (3, .int p3)] := hl
  refine lv_aload_n hx hb dX12_bestSet_0 rfl (lv_at hl 0 rfl) ?_
  refine lv_iload_n hx hb dX12_bestSet_1 rfl (lv_at hl 2 rfl) ?_
  refine rd_V (As := [.int p2]) (rest := []) (d := 1) caV_SignalTableModel_614 hx hb hml hown hts hP hK (rM_X12_canGain p2) (ci := 12) (q0 := 0) rfl rfl (by decide) rfl hl.1 (Nat.le_of_ble_eq_true rfl) (by decide) dX12_bestSet_2 rfl ?_
  refine lv_if_eq (tgt := 17) hx hb dX12_bestSet_5 (by decide) (fun _ => ?_) (fun h => absurd (by decide) h)
  refine lv_sipush (v := (-1000)) hx hb dX12_bestSet_17 (by decide) ?_
  exact rd_i hx hb hr hlocks (rfl) dX12_bestSet_20
set_option maxHeartbeats 4000000 in
set_option maxRecDepth 100000 in
theorem rM_X12_book {l : Launch} {D : va_G} {q : Nat → Nat} {k : Nat → ClassId} {g : Nat → Nat → Int32} {gl : Nat → Nat → Int64} : Rd l yX12_book cX12_book 7 (some .int) 0 D (wM q k g gl) (tyM k) [.ref (q 0)] (.int (-1)) := by
  refine Rd.of (by decide) (Nat.le_of_ble_eq_true rfl) ?_
  intro p e s m below meth c ls hx hb hr hml hown hts hlocks hP hK hl
  have hown : s.vm.findClass "SignalTableModel" = some m.cls := hown
  have hl : lv_has ls 7 [(0, .ref (q 0))] := hl
  refine lv_aload_n hx hb dX12_book_0 rfl (lv_at hl 0 rfl) ?_
  refine va_get (D := D) (ci := 12) (v := .int 0) (C := RX12) (T := TX12) (N := 95) hx hb hts inX12 hown hK hP 0 rfl rfl 45 (by decide) (hts _ kw_1559) (fun _ h9 => h9) rfl dX12_book_1 ?_
  refine lv_if_eq (tgt := 27) hx hb dX12_book_4 (by decide) (fun _ => ?_) (fun h => absurd (by decide) h)
  refine lv_iconst (v := (-1)) hx hb dX12_book_27 (by decide) ?_
  exact rd_i hx hb hr hlocks (rfl) dX12_book_28
set_option maxHeartbeats 4000000 in
set_option maxRecDepth 100000 in
theorem rM_X12_kept {l : Launch} {D : va_G} {q : Nat → Nat} {k : Nat → ClassId} {g : Nat → Nat → Int32} {gl : Nat → Nat → Int64} (p1 : Int32) : Rd l yX12_kept cX12_kept 4 (some .int) 1 D (wM q k g gl) (tyM k) [.ref (q 0), .int p1] (.int (if p1 = 0 then 0 else (-1))) := by
  refine Rd.of (by decide) (Nat.le_of_ble_eq_true rfl) ?_
  intro p e s m below meth c ls hx hb hr hml hown hts hlocks hP hK hl
  have hown : s.vm.findClass "SignalTableModel" = some m.cls := hown
  have hl : lv_has ls 4 [(0, .ref (q 0)), (1, .int p1)] := hl
  refine lv_iload_n hx hb dX12_kept_0 rfl (lv_at hl 1 rfl) ?_
  refine lv_iconst (v := 0) hx hb dX12_kept_1 (by decide) ?_
  refine lv_aload_n hx hb dX12_kept_2 rfl (lv_at hl 0 rfl) ?_
  refine va_get (D := D) (ci := 12) (v := .int 0) (C := RX12) (T := TX12) (N := 95) hx hb hts inX12 hown hK hP 0 rfl rfl 86 (by decide) (hts _ kw_1600) (fun _ h9 => h9) rfl dX12_kept_3 ?_
  refine rd_S (As := [.int p1, .int 0, .int 0]) (rest := []) (d := 0) caS_SignalTableModel_310 hx hb hml hown hts hP hK (rM_X12_in p1 0 0) (by decide) rfl hl.1 (Nat.le_of_ble_eq_true rfl) (by decide) dX12_kept_6 rfl ?_
  refine lv_if_ne (tgt := 14) hx hb dX12_kept_9 (by decide) (fun c_1 => ?_) (fun c_1 => ?_)
  · skip
    have c_1 := z_ifn c_1
    refine lv_iconst (v := 0) hx hb dX12_kept_14 (by decide) ?_
    refine lv_istore_n (lv' := [(2, .int 0), (0, .ref (q 0)), (1, .int p1)]) hx hb dX12_kept_15 rfl hl (by decide) rfl (fun ls hl => ?_)
    refine lv_iconst (v := 0) hx hb dX12_kept_16 (by decide) ?_
    refine lv_istore_n (lv' := [(3, .int 0), (2, .int 0), (0, .ref (q 0)), (1, .int p1)]) hx hb dX12_kept_17 rfl hl (by decide) rfl (fun ls hl => ?_)
    refine lv_iload_n hx hb dX12_kept_18 rfl (lv_at hl 0 rfl) ?_
    refine lv_aload_n hx hb dX12_kept_19 rfl (lv_at hl 2 rfl) ?_
    refine va_get (D := D) (ci := 12) (v := .ref (q 9)) (C := RX12) (T := TX12) (N := 95) hx hb hts inX12 hown hK hP 0 rfl rfl 25 (by decide) (hts _ kw_1539) (fun _ h9 => h9) rfl dX12_kept_20 ?_
    refine lv_aload_n hx hb dX12_kept_23 rfl (lv_at hl 2 rfl) ?_
    refine va_get (D := D) (ci := 12) (v := .int 0) (C := RX12) (T := TX12) (N := 95) hx hb hts inX12 hown hK hP 0 rfl rfl 18 (by decide) (hts _ kw_1532) (fun _ h9 => h9) rfl dX12_kept_24 ?_
    refine va_iald hx hb hK hP 9 8 rfl rfl (z_in (by decide)) dX12_kept_27 ?_
    refine z_i (v := 0) (by rfl) ?_
    refine lv_icmp_ge (tgt := 53) hx hb dX12_kept_28 (by decide) (fun _ => ?_) (fun h => absurd (by decide) h)
    refine lv_iload_n hx hb dX12_kept_53 rfl (lv_at hl 1 rfl) ?_
    exact rd_i hx hb hr hlocks (congrArg Value.int (by by_cases s_1 : p1 = 0 <;> simp only [s_1, if_true, if_false, and_self, not_false_eq_true, not_true_eq_false] <;> first | rfl | (exfalso; simp only [Int32.lt_iff_toInt_lt, Int32.le_iff_toInt_le, ← Int32.toInt_inj, ti_m2, ti_m1, ti_0, ti_1, ti_2, ti_3, ti_4, ti_5, ti_6, ti_7, ti_8, ti_10, ti_20] at s_1 c_1 <;> omega))) dX12_kept_54
  · skip
    have c_1 := z_if0 c_1
    refine lv_iconst (v := (-1)) hx hb dX12_kept_12 (by decide) ?_
    exact rd_i hx hb hr hlocks (congrArg Value.int (by by_cases s_1 : p1 = 0 <;> simp only [s_1, if_true, if_false, and_self, not_false_eq_true, not_true_eq_false] <;> first | rfl | (exfalso; simp only [Int32.lt_iff_toInt_lt, Int32.le_iff_toInt_le, ← Int32.toInt_inj, ti_m2, ti_m1, ti_0, ti_1, ti_2, ti_3, ti_4, ti_5, ti_6, ti_7, ti_8, ti_10, ti_20] at s_1 c_1 <;> omega))) dX12_kept_13
set_option maxHeartbeats 4000000 in
set_option maxRecDepth 100000 in
theorem rM_X12_told {l : Launch} {D : va_G} {q : Nat → Nat} {k : Nat → ClassId} {g : Nat → Nat → Int32} {gl : Nat → Nat → Int64} (p1 p2 p3 : Int32) : Rd l yX12_told cX12_told 4 (some .int) 2 D (wM q k g gl) (tyM k) [.ref (q 0), .int p1, .int p2, .int p3] (.int (-1)) := by
  refine Rd.of (by decide) (Nat.le_of_ble_eq_true rfl) ?_
  intro p e s m below meth c ls hx hb hr hml hown hts hlocks hP hK hl
  have hown : s.vm.findClass "SignalTableModel" = some m.cls := hown
  have hl : lv_has ls 4 [(0, .ref (q 0)), (1, .int p1), (2, .int p2), (3, .int p3)] := hl
  refine lv_aload_n hx hb dX12_told_0 rfl (lv_at hl 0 rfl) ?_
  refine lv_iload_n hx hb dX12_told_1 rfl (lv_at hl 1 rfl) ?_
  refine rd_V (As := [.int p1]) (rest := []) (d := 1) caV_SignalTableModel_630 hx hb hml hown hts hP hK (rM_X12_isCustom p1) (ci := 12) (q0 := 0) rfl rfl (by decide) rfl hl.1 (Nat.le_of_ble_eq_true rfl) (by decide) dX12_told_2 rfl ?_
  refine lv_if_eq (tgt := 48) hx hb dX12_told_5 (by decide) (fun _ => ?_) (fun h => absurd (by decide) h)
  refine lv_iconst (v := (-1)) hx hb dX12_told_48 (by decide) ?_
  exact rd_i hx hb hr hlocks (rfl) dX12_told_49
set_option maxHeartbeats 4000000 in
set_option maxRecDepth 100000 in
theorem rM_X12_openings {l : Launch} {D : va_G} {q : Nat → Nat} {k : Nat → ClassId} {g : Nat → Nat → Int32} {gl : Nat → Nat → Int64} (p1 p2 : Int32) : Rd l yX12_openings cX12_openings 3 (some .int) 2 D (wM q k g gl) (tyM k) [.ref (q 0), .int p1, .int p2] (.int (-1)) := by
  refine Rd.of (by decide) (Nat.le_of_ble_eq_true rfl) ?_
  intro p e s m below meth c ls hx hb hr hml hown hts hlocks hP hK hl
  have hown : s.vm.findClass "SignalTableModel" = some m.cls := hown
  have hl : lv_has ls 3 [(0, .ref (q 0)), (1, .int p1), (2, .int p2)] := hl
  refine lv_aload_n hx hb dX12_openings_0 rfl (lv_at hl 0 rfl) ?_
  refine lv_iload_n hx hb dX12_openings_1 rfl (lv_at hl 1 rfl) ?_
  refine rd_V (As := [.int p1]) (rest := []) (d := 1) caV_SignalTableModel_630 hx hb hml hown hts hP hK (rM_X12_isCustom p1) (ci := 12) (q0 := 0) rfl rfl (by decide) rfl hl.1 (Nat.le_of_ble_eq_true rfl) (by decide) dX12_openings_2 rfl ?_
  refine lv_if_eq (tgt := 17) hx hb dX12_openings_5 (by decide) (fun _ => ?_) (fun h => absurd (by decide) h)
  refine lv_iconst (v := (-1)) hx hb dX12_openings_17 (by decide) ?_
  exact rd_i hx hb hr hlocks (rfl) dX12_openings_18
set_option maxHeartbeats 4000000 in
set_option maxRecDepth 100000 in
theorem rM_X12_quarrel {l : Launch} {D : va_G} {q : Nat → Nat} {k : Nat → ClassId} {g : Nat → Nat → Int32} {gl : Nat → Nat → Int64} (p1 p2 : Int32) : Rd l yX12_quarrel cX12_quarrel 3 (some .int) 2 D (wM q k g gl) (tyM k) [.ref (q 0), .int p1, .int p2] (.int (-1)) := by
  refine Rd.of (by decide) (Nat.le_of_ble_eq_true rfl) ?_
  intro p e s m below meth c ls hx hb hr hml hown hts hlocks hP hK hl
  have hown : s.vm.findClass "SignalTableModel" = some m.cls := hown
  have hl : lv_has ls 3 [(0, .ref (q 0)), (1, .int p1), (2, .int p2)] := hl
  refine lv_aload_n hx hb dX12_quarrel_0 rfl (lv_at hl 0 rfl) ?_
  refine lv_iload_n hx hb dX12_quarrel_1 rfl (lv_at hl 1 rfl) ?_
  refine rd_V (As := [.int p1]) (rest := []) (d := 1) caV_SignalTableModel_630 hx hb hml hown hts hP hK (rM_X12_isCustom p1) (ci := 12) (q0 := 0) rfl rfl (by decide) rfl hl.1 (Nat.le_of_ble_eq_true rfl) (by decide) dX12_quarrel_2 rfl ?_
  refine lv_if_eq (tgt := 21) hx hb dX12_quarrel_5 (by decide) (fun _ => ?_) (fun h => absurd (by decide) h)
  refine lv_iconst (v := (-1)) hx hb dX12_quarrel_21 (by decide) ?_
  exact rd_i hx hb hr hlocks (rfl) dX12_quarrel_22
set_option maxHeartbeats 4000000 in
set_option maxRecDepth 100000 in
theorem rM_X12_hold {l : Launch} {D : va_G} {q : Nat → Nat} {k : Nat → ClassId} {g : Nat → Nat → Int32} {gl : Nat → Nat → Int64} (p1 : Int32) : Rd l yX12_hold cX12_hold 3 (some .boolean) 1 D (wM q k g gl) (tyM k) [.ref (q 0), .int p1] (.int 0) := by
  refine Rd.of (by decide) (Nat.le_of_ble_eq_true rfl) ?_
  intro p e s m below meth c ls hx hb hr hml hown hts hlocks hP hK hl
  have hown : s.vm.findClass "SignalTableModel" = some m.cls := hown
  have hl : lv_has ls 3 [(0, .ref (q 0)), (1, .int p1)] := hl
  refine lv_iload_n hx hb dX12_hold_0 rfl (lv_at hl 1 rfl) ?_
  refine lv_iconst (v := 0) hx hb dX12_hold_1 (by decide) ?_
  refine lv_iconst (v := 1) hx hb dX12_hold_2 (by decide) ?_
  refine rd_S (As := [.int p1, .int 0, .int 1]) (rest := []) (d := 0) caS_SignalTableModel_310 hx hb hml hown hts hP hK (rM_X12_in p1 0 1) (by decide) rfl hl.1 (Nat.le_of_ble_eq_true rfl) (by decide) dX12_hold_3 rfl ?_
  refine lv_if_eq (tgt := 16) hx hb dX12_hold_6 (by decide) (fun c_1 => ?_) (fun c_1 => ?_)
  · skip
    have c_1 := z_if0 c_1
    refine lv_iconst (v := 0) hx hb dX12_hold_16 (by decide) ?_
    exact rd_z hx hb hr hlocks rfl (rfl) dX12_hold_17
  · skip
    have c_1 := z_ifn c_1
    refine lv_aload_n hx hb dX12_hold_9 rfl (lv_at hl 0 rfl) ?_
    refine va_get (D := D) (ci := 12) (v := .int 0) (C := RX12) (T := TX12) (N := 95) hx hb hts inX12 hown hK hP 0 rfl rfl 45 (by decide) (hts _ kw_1559) (fun _ h9 => h9) rfl dX12_hold_10 ?_
    refine lv_if_ne (tgt := 18) hx hb dX12_hold_13 (by decide) (fun h => absurd (by decide) h) (fun _ => ?_)
    refine lv_iconst (v := 0) hx hb dX12_hold_16 (by decide) ?_
    exact rd_z hx hb hr hlocks rfl (rfl) dX12_hold_17
set_option maxHeartbeats 4000000 in
set_option maxRecDepth 100000 in
theorem rM_X12_restore {l : Launch} {D : va_G} {q : Nat → Nat} {k : Nat → ClassId} {g : Nat → Nat → Int32} {gl : Nat → Nat → Int64} (p1 : Int32) : Rd l yX12_restore cX12_restore 3 (some .boolean) 1 D (wM q k g gl) (tyM k) [.ref (q 0), .int p1] (.int 0) := by
  refine Rd.of (by decide) (Nat.le_of_ble_eq_true rfl) ?_
  intro p e s m below meth c ls hx hb hr hml hown hts hlocks hP hK hl
  have hown : s.vm.findClass "SignalTableModel" = some m.cls := hown
  have hl : lv_has ls 3 [(0, .ref (q 0)), (1, .int p1)] := hl
  refine lv_iload_n hx hb dX12_restore_0 rfl (lv_at hl 1 rfl) ?_
  refine lv_iconst (v := 0) hx hb dX12_restore_1 (by decide) ?_
  refine lv_iconst (v := 1) hx hb dX12_restore_2 (by decide) ?_
  refine rd_S (As := [.int p1, .int 0, .int 1]) (rest := []) (d := 0) caS_SignalTableModel_310 hx hb hml hown hts hP hK (rM_X12_in p1 0 1) (by decide) rfl hl.1 (Nat.le_of_ble_eq_true rfl) (by decide) dX12_restore_3 rfl ?_
  refine lv_if_eq (tgt := 18) hx hb dX12_restore_6 (by decide) (fun c_1 => ?_) (fun c_1 => ?_)
  · skip
    have c_1 := z_if0 c_1
    refine lv_iconst (v := 0) hx hb dX12_restore_18 (by decide) ?_
    exact rd_z hx hb hr hlocks rfl (rfl) dX12_restore_19
  · skip
    have c_1 := z_ifn c_1
    refine lv_aload_n hx hb dX12_restore_9 rfl (lv_at hl 0 rfl) ?_
    refine va_get (D := D) (ci := 12) (v := .ref (q 12)) (C := RX12) (T := TX12) (N := 95) hx hb hts inX12 hown hK hP 0 rfl rfl 89 (by decide) (hts _ kw_1603) (fun _ h9 => h9) rfl dX12_restore_10 ?_
    refine lv_iload_n hx hb dX12_restore_13 rfl (lv_at hl 1 rfl) ?_
    by_cases c_2 : p1 = 0
    · subst c_2
      refine va_zald hx hb hK hP 12 11 rfl rfl (z_in (by decide)) dX12_restore_14 ?_
      refine z_i (v := 0) (by rfl) ?_
      refine lv_if_ne (tgt := 20) hx hb dX12_restore_15 (by decide) (fun h => absurd (by decide) h) (fun _ => ?_)
      refine lv_iconst (v := 0) hx hb dX12_restore_18 (by decide) ?_
      exact rd_z hx hb hr hlocks rfl (rfl) dX12_restore_19
    by_cases c_3 : p1 = 1
    · subst c_3
      refine va_zald hx hb hK hP 12 11 rfl rfl (z_in (by decide)) dX12_restore_14 ?_
      refine z_i (v := 0) (by rfl) ?_
      refine lv_if_ne (tgt := 20) hx hb dX12_restore_15 (by decide) (fun h => absurd (by decide) h) (fun _ => ?_)
      refine lv_iconst (v := 0) hx hb dX12_restore_18 (by decide) ?_
      exact rd_z hx hb hr hlocks rfl (rfl) dX12_restore_19
    exfalso
    simp only [Int32.lt_iff_toInt_lt, Int32.le_iff_toInt_le, ← Int32.toInt_inj, ti_m2, ti_m1, ti_0, ti_1, ti_2, ti_3, ti_4, ti_5, ti_6, ti_7, ti_8, ti_10, ti_20] at c_1 c_2 c_3 <;> omega
set_option maxHeartbeats 4000000 in
set_option maxRecDepth 100000 in
theorem rM_X12_count {l : Launch} {D : va_G} {q : Nat → Nat} {k : Nat → ClassId} {g : Nat → Nat → Int32} {gl : Nat → Nat → Int64} (p1 : Int32) : Rd l yX12_count cX12_count 2 (some .int) 2 D (wM q k g gl) (tyM k) [.ref (q 0), .int p1] (.int (sp_count p1)) := by
  refine Rd.of (by decide) (Nat.le_of_ble_eq_true rfl) ?_
  intro p e s m below meth c ls hx hb hr hml hown hts hlocks hP hK hl
  have hown : s.vm.findClass "SignalTableModel" = some m.cls := hown
  have hl : lv_has ls 2 [(0, .ref (q 0)), (1, .int p1)] := hl
  refine lv_iload_n hx hb dX12_count_0 rfl (lv_at hl 1 rfl) ?_
  by_cases c_1 : p1 = 0
  · subst c_1
    refine lv_tableIn (off := 51) (tgt := 52) hx hb dX12_count_1 (by decide) (by decide) rfl (by decide) ?_
    refine lv_aload_n hx hb dX12_count_52 rfl (lv_at hl 0 rfl) ?_
    refine va_get (D := D) (ci := 12) (v := .ref (q 6)) (C := RX12) (T := TX12) (N := 95) hx hb hts inX12 hown hK hP 0 rfl rfl 22 (by decide) (hts _ kw_1536) (fun _ h9 => h9) rfl dX12_count_53 ?_
    refine lv_aload_n hx hb dX12_count_56 rfl (lv_at hl 0 rfl) ?_
    refine va_get (D := D) (ci := 12) (v := .int 0) (C := RX12) (T := TX12) (N := 95) hx hb hts inX12 hown hK hP 0 rfl rfl 18 (by decide) (hts _ kw_1532) (fun _ h9 => h9) rfl dX12_count_57 ?_
    refine va_iald hx hb hK hP 6 5 rfl rfl (z_in (by decide)) dX12_count_60 ?_
    refine z_i (v := 4) (by rfl) ?_
    exact rd_i hx hb hr hlocks (rfl) dX12_count_61
  by_cases c_2 : p1 = 1
  · subst c_2
    refine lv_tableIn (off := 61) (tgt := 62) hx hb dX12_count_1 (by decide) (by decide) rfl (by decide) ?_
    refine lv_aload_n hx hb dX12_count_62 rfl (lv_at hl 0 rfl) ?_
    refine va_get (D := D) (ci := 12) (v := .ref (q 7)) (C := RX12) (T := TX12) (N := 95) hx hb hts inX12 hown hK hP 0 rfl rfl 23 (by decide) (hts _ kw_1537) (fun _ h9 => h9) rfl dX12_count_63 ?_
    refine lv_aload_n hx hb dX12_count_66 rfl (lv_at hl 0 rfl) ?_
    refine va_get (D := D) (ci := 12) (v := .int 0) (C := RX12) (T := TX12) (N := 95) hx hb hts inX12 hown hK hP 0 rfl rfl 18 (by decide) (hts _ kw_1532) (fun _ h9 => h9) rfl dX12_count_67 ?_
    refine va_iald hx hb hK hP 7 6 rfl rfl (z_in (by decide)) dX12_count_70 ?_
    refine z_i (v := 4) (by rfl) ?_
    exact rd_i hx hb hr hlocks (rfl) dX12_count_71
  by_cases c_3 : p1 = 2
  · subst c_3
    refine lv_tableIn (off := 71) (tgt := 72) hx hb dX12_count_1 (by decide) (by decide) rfl (by decide) ?_
    refine lv_aload_n hx hb dX12_count_72 rfl (lv_at hl 0 rfl) ?_
    refine rd_V (As := []) (rest := []) (d := 1) caV_SignalTableModel_365 hx hb hml hown hts hP hK (rM_X12_handSize) (ci := 12) (q0 := 0) rfl rfl (by decide) rfl hl.1 (Nat.le_of_ble_eq_true rfl) (by decide) dX12_count_73 rfl ?_
    exact rd_i hx hb hr hlocks (rfl) dX12_count_76
  by_cases c_4 : p1 = 3
  · subst c_4
    refine lv_tableIn (off := 76) (tgt := 77) hx hb dX12_count_1 (by decide) (by decide) rfl (by decide) ?_
    refine lv_aload_n hx hb dX12_count_77 rfl (lv_at hl 0 rfl) ?_
    refine rd_V (As := []) (rest := []) (d := 0) caV_SignalTableModel_386 hx hb hml hown hts hP hK (rM_X12_trumpSuit) (ci := 12) (q0 := 0) rfl rfl (by decide) rfl hl.1 (Nat.le_of_ble_eq_true rfl) (by decide) dX12_count_78 rfl ?_
    refine lv_iconst (v := (-1)) hx hb dX12_count_81 (by decide) ?_
    refine lv_icmp_ne (tgt := 90) hx hb dX12_count_82 (by decide) (fun h => absurd (by decide) h) (fun _ => ?_)
    refine lv_bipush (v := (-2)) hx hb dX12_count_85 (by decide) ?_
    refine lv_goto (tgt := 94) hx hb dX12_count_87 (by decide) ?_
    exact rd_i hx hb hr hlocks (rfl) dX12_count_94
  by_cases c_5 : p1 = 4
  · subst c_5
    refine lv_tableIn (off := 94) (tgt := 95) hx hb dX12_count_1 (by decide) (by decide) rfl (by decide) ?_
    refine lv_aload_n hx hb dX12_count_95 rfl (lv_at hl 0 rfl) ?_
    refine va_get (D := D) (ci := 12) (v := .ref (q 9)) (C := RX12) (T := TX12) (N := 95) hx hb hts inX12 hown hK hP 0 rfl rfl 25 (by decide) (hts _ kw_1539) (fun _ h9 => h9) rfl dX12_count_96 ?_
    refine lv_aload_n hx hb dX12_count_99 rfl (lv_at hl 0 rfl) ?_
    refine va_get (D := D) (ci := 12) (v := .int 0) (C := RX12) (T := TX12) (N := 95) hx hb hts inX12 hown hK hP 0 rfl rfl 18 (by decide) (hts _ kw_1532) (fun _ h9 => h9) rfl dX12_count_100 ?_
    refine va_iald hx hb hK hP 9 8 rfl rfl (z_in (by decide)) dX12_count_103 ?_
    refine z_i (v := 0) (by rfl) ?_
    exact rd_i hx hb hr hlocks (rfl) dX12_count_104
  by_cases c_6 : p1 = 5
  · subst c_6
    refine lv_tableIn (off := 104) (tgt := 105) hx hb dX12_count_1 (by decide) (by decide) rfl (by decide) ?_
    refine lv_aload_n hx hb dX12_count_105 rfl (lv_at hl 0 rfl) ?_
    refine va_get (D := D) (ci := 12) (v := .int 0) (C := RX12) (T := TX12) (N := 95) hx hb hts inX12 hown hK hP 0 rfl rfl 45 (by decide) (hts _ kw_1559) (fun _ h9 => h9) rfl dX12_count_106 ?_
    refine lv_if_eq (tgt := 119) hx hb dX12_count_109 (by decide) (fun _ => ?_) (fun h => absurd (by decide) h)
    refine lv_bipush (v := (-2)) hx hb dX12_count_119 (by decide) ?_
    exact rd_i hx hb hr hlocks (rfl) dX12_count_121
  by_cases c_7 : p1 = 6
  · subst c_7
    refine lv_tableIn (off := 121) (tgt := 122) hx hb dX12_count_1 (by decide) (by decide) rfl (by decide) ?_
    refine lv_aload_n hx hb dX12_count_122 rfl (lv_at hl 0 rfl) ?_
    refine va_get (D := D) (ci := 12) (v := .int 0) (C := RX12) (T := TX12) (N := 95) hx hb hts inX12 hown hK hP 0 rfl rfl 86 (by decide) (hts _ kw_1600) (fun _ h9 => h9) rfl dX12_count_123 ?_
    exact rd_i hx hb hr hlocks (rfl) dX12_count_126
  by_cases c_8 : p1 = 7
  · subst c_8
    refine lv_tableIn (off := 126) (tgt := 127) hx hb dX12_count_1 (by decide) (by decide) rfl (by decide) ?_
    refine lv_aload_n hx hb dX12_count_127 rfl (lv_at hl 0 rfl) ?_
    refine va_get (D := D) (ci := 12) (v := .int 0) (C := RX12) (T := TX12) (N := 95) hx hb hts inX12 hown hK hP 0 rfl rfl 2 (by decide) (hts _ kw_1516) (fun _ h9 => h9) rfl dX12_count_128 ?_
    exact rd_i hx hb hr hlocks (rfl) dX12_count_131
  by_cases c_9 : p1 = 8
  · subst c_9
    refine lv_tableIn (off := 131) (tgt := 132) hx hb dX12_count_1 (by decide) (by decide) rfl (by decide) ?_
    refine lv_aload_n hx hb dX12_count_132 rfl (lv_at hl 0 rfl) ?_
    refine va_get (D := D) (ci := 12) (v := .ref (q 12)) (C := RX12) (T := TX12) (N := 95) hx hb hts inX12 hown hK hP 0 rfl rfl 89 (by decide) (hts _ kw_1603) (fun _ h9 => h9) rfl dX12_count_133 ?_
    refine lv_iconst (v := 0) hx hb dX12_count_136 (by decide) ?_
    refine va_zald hx hb hK hP 12 11 rfl rfl (z_in (by decide)) dX12_count_137 ?_
    refine z_i (v := 0) (by rfl) ?_
    refine lv_if_eq (tgt := 145) hx hb dX12_count_138 (by decide) (fun _ => ?_) (fun h => absurd (by decide) h)
    refine lv_iconst (v := 0) hx hb dX12_count_145 (by decide) ?_
    refine lv_aload_n hx hb dX12_count_146 rfl (lv_at hl 0 rfl) ?_
    refine va_get (D := D) (ci := 12) (v := .ref (q 12)) (C := RX12) (T := TX12) (N := 95) hx hb hts inX12 hown hK hP 0 rfl rfl 89 (by decide) (hts _ kw_1603) (fun _ h9 => h9) rfl dX12_count_147 ?_
    refine lv_iconst (v := 1) hx hb dX12_count_150 (by decide) ?_
    refine va_zald hx hb hK hP 12 11 rfl rfl (z_in (by decide)) dX12_count_151 ?_
    refine z_i (v := 0) (by rfl) ?_
    refine lv_if_eq (tgt := 159) hx hb dX12_count_152 (by decide) (fun _ => ?_) (fun h => absurd (by decide) h)
    refine lv_iconst (v := 0) hx hb dX12_count_159 (by decide) ?_
    refine lv_iadd hx hb dX12_count_160 ?_
    refine z_i (v := 0) (by decide) ?_
    exact rd_i hx hb hr hlocks (rfl) dX12_count_161
  have c_10 : p1.toInt < 0 ∨ 8 < p1.toInt := by
    simp only [Int32.lt_iff_toInt_lt, Int32.le_iff_toInt_le, ← Int32.toInt_inj, ti_m2, ti_m1, ti_0, ti_1, ti_2, ti_3, ti_4, ti_5, ti_6, ti_7, ti_8, ti_10, ti_20] at c_1 c_2 c_3 c_4 c_5 c_6 c_7 c_8 c_9
    omega
  refine lv_tableOut (tgt := 162) hx hb dX12_count_1 c_10 (by decide) ?_
  refine lv_aload_n hx hb dX12_count_162 rfl (lv_at hl 0 rfl) ?_
  refine lv_iload_n hx hb dX12_count_163 rfl (lv_at hl 1 rfl) ?_
  refine lv_bipush (v := 10) hx hb dX12_count_164 (by decide) ?_
  refine lv_isub hx hb dX12_count_166 ?_
  refine rd_V (As := [.int (p1 - 10)]) (rest := []) (d := 1) caV_SignalTableModel_630 hx hb hml hown hts hP hK (rM_X12_isCustom (p1 - 10)) (ci := 12) (q0 := 0) rfl rfl (by decide) rfl hl.1 (Nat.le_of_ble_eq_true rfl) (by decide) dX12_count_167 rfl ?_
  refine lv_if_eq (tgt := 214) hx hb dX12_count_170 (by decide) (fun _ => ?_) (fun h => absurd (by decide) h)
  refine lv_iconst (v := (-1)) hx hb dX12_count_214 (by decide) ?_
  exact rd_i hx hb hr hlocks (congrArg Value.int (by simp [sp_count, c_1, c_2, c_3, c_4, c_5, c_6, c_7, c_8, c_9])) dX12_count_215
end
section
/-! methods that write ('writers'): their cells before, their cells behind, all else unchanged -/
abbrev WF : Type := (Nat → Nat) → (Nat → ClassId) → (Nat → Nat → Int32) → (Nat → Nat → Int64) → va_W
abbrev TF : Type := (Nat → ClassId) → List (ClassId × FieldType)
def bl (E : State → Prop) : Prop := ∀ (a : Array Value) (U : State) (g : JFrame) (mk : MethodId), E U → E (U.calling g mk a)
theorem bl_T : bl (fun _ => True) := fun _ _ _ _ h => h
def PW (D : va_G) (w : va_W) (tys : List (ClassId × FieldType)) (av : List Value) (sz : Nat) (E : State → Prop) : Array Value → State → Prop := va_Pc av (fun U => U.heap.size = sz ∧ va_P D vwCl w U.heap ∧ va_K D vwCl tys U ∧ va_D (fun _ => True) w ∧ E U)
theorem PW_blind {D : va_G} {w : va_W} {tys : List (ClassId × FieldType)} {av : List Value} {sz : Nat} {E : State → Prop} (h : bl E) : FrameBlind (PW D w tys av sz E) := fun a U g mk q => ⟨q.1, q.2.1, q.2.2.1, va_K.moved (u := U) (U := U.calling g mk a) (Vm.Alike.refl U.vm) q.2.2.2.1, q.2.2.2.2.1, h a U g mk q.2.2.2.2.2⟩
theorem PW_of {D : va_G} {w : va_W} {tys : List (ClassId × FieldType)} {av : List Value} {E : State → Prop} {s : State} {H : Heap} {A : Nat → Prop} (hP : va_P D vwCl w H) (hK : va_K D vwCl tys s) (hD : va_D A w) (hE : ∀ U : State, U.heap = H → s.WarmedH U.vm → E U) : ∀ U : State, U.heap = H → s.WarmedH U.vm → PW D w tys av H.size E av.toArray U := fun U hU hW => ⟨rfl, by rw [hU], by rw [hU]; exact hP, va_K.moved hW.alike hK, hD.weaken (fun _ _ _ _ => trivial), hE U hU hW⟩
def AT (D : va_G) (w' : WF) (t' : TF) (A : Nat → Prop) (t : State) : Prop := ∃ (q : Nat → Nat) (k : Nat → ClassId) (g : Nat → Nat → Int32) (gl : Nat → Nat → Int64), va_P D vwCl (w' q k g gl) t.heap ∧ va_K D vwCl (t' k) t ∧ va_D A (w' q k g gl)
abbrev QWv (D : va_G) (w' : WF) (t' : TF) (A : Nat → Prop) : Array Value → State → Outcome → State → Prop := va_Qv (fun _ : Unit => True) (fun _ t => AT D w' t' A t) A
abbrev QWi (D : va_G) (r : Int32) (w' : WF) (t' : TF) (A : Nat → Prop) : Array Value → State → Outcome → State → Prop := va_Qi (fun (x : Int32) (_ : Unit) => x = r) (fun _ t => AT D w' t' A t) A
def Wv (l : Launch) (y : MethodName) (c : ByteArray) (n d mc ms : Nat) (D : va_G) (w : va_W) (tys : List (ClassId × FieldType)) (av : List Value) (sz : Nat) (E : State → Prop) (w' : WF) (t' : TF) : Prop := Met l y (wU y c n none) (rmU d mc ms) (PW D w tys av sz E) (QWv D w' t' (va_A w sz)) mc ms (va_A w sz)
def Wi (l : Launch) (y : MethodName) (c : ByteArray) (n : Nat) (ret : Option FieldType) (d mc ms : Nat) (D : va_G) (w : va_W) (tys : List (ClassId × FieldType)) (av : List Value) (sz : Nat) (E : State → Prop) (r : Int32) (w' : WF) (t' : TF) : Prop := Met l y (wU y c n ret) (rmU d mc ms) (PW D w tys av sz E) (QWi D r w' t' (va_A w sz)) mc ms (va_A w sz)
section WrEntry
variable {l : Launch} {y : MethodName} {cc : ByteArray} {maxL d mc ms : Nat} {ret : Option FieldType} {D : va_G} {w : va_W} {tys : List (ClassId × FieldType)} {av : List Value} {sz : Nat} {E : State → Prop} {r : Int32} {w' : WF} {t' : TF}
theorem Wv.of (hy : plainName y.cls = true) (hlen : (lg_sl av).length ≤ maxL)
    (body : ∀ (p : Program) (e : Env) (s : State) (m : MethodId) (below : List Frame) (meth : Method) (c : Code) (ls : Array Slot) (A : Nat → Prop), p.tables.exec = Jvm.exec → c.code = cc → meth.sig.returnType = none → c.maxLocals = maxL → s.vm.findClass y.cls = some m.cls → (∀ w ∈ lwg, w.before av.toArray s = true) → meth.locks = false → meth.name = y.name → va_P D vwCl w s.heap → va_K D vwCl tys s → va_D A w → (∀ q : Nat, s.heap.size ≤ q → A q) → va_S A s.heap s.heap [] → E s → A = va_A w s.heap.size → lv_has ls maxL (lv_args 0 av) →
      W p l e (rmU d mc ms) s m av.toArray below meth c s.heap [] 0 0 (MQ below (QWv D w' t' A) av.toArray s mc ms A) (F0 m 0 ls [])) : Wv l y cc maxL d mc ms D w tys av sz E w' t' := by
  refine Met.ofW (cc := cc) (maxL := maxL) (ret := none) hy rfl ?_
  intro p e s m args below meth c s₁ B hml hv
  obtain ⟨rfl, hsz, hP, hK, hD, hE⟩ := hv
  subst hsz
  rw [lg_entry_eq]
  exact body p e s m below meth c _ (va_A w s.heap.size) B.exec B.bytes B.returns hml (findClass_of_methodNamed B.named) (fun w h => atoms_spec (ws := wU y cc maxL none) B.pre w (List.mem_cons_of_mem _ h)) B.notSynchronized (name_of_methodNamed B.named B.method).1 hP hK hD.self (fun _ h => Or.inr h) va_S.rf hE rfl (lv_entry av hlen)
theorem Wi.of (hy : plainName y.cls = true) (hlen : (lg_sl av).length ≤ maxL)
    (body : ∀ (p : Program) (e : Env) (s : State) (m : MethodId) (below : List Frame) (meth : Method) (c : Code) (ls : Array Slot) (A : Nat → Prop), p.tables.exec = Jvm.exec → c.code = cc → meth.sig.returnType = ret → c.maxLocals = maxL → s.vm.findClass y.cls = some m.cls → (∀ w ∈ lwg, w.before av.toArray s = true) → meth.locks = false → meth.name = y.name → va_P D vwCl w s.heap → va_K D vwCl tys s → va_D A w → (∀ q : Nat, s.heap.size ≤ q → A q) → va_S A s.heap s.heap [] → E s → A = va_A w s.heap.size → lv_has ls maxL (lv_args 0 av) →
      W p l e (rmU d mc ms) s m av.toArray below meth c s.heap [] 0 0 (MQ below (QWi D r w' t' A) av.toArray s mc ms A) (F0 m 0 ls [])) : Wi l y cc maxL ret d mc ms D w tys av sz E r w' t' := by
  refine Met.ofW (cc := cc) (maxL := maxL) (ret := ret) hy rfl ?_
  intro p e s m args below meth c s₁ B hml hv
  obtain ⟨rfl, hsz, hP, hK, hD, hE⟩ := hv
  subst hsz
  rw [lg_entry_eq]
  exact body p e s m below meth c _ (va_A w s.heap.size) B.exec B.bytes B.returns hml (findClass_of_methodNamed B.named) (fun w h => atoms_spec (ws := wU y cc maxL ret) B.pre w (List.mem_cons_of_mem _ h)) B.notSynchronized (name_of_methodNamed B.named B.method).1 hP hK hD.self (fun _ h => Or.inr h) va_S.rf hE rfl (lv_entry av hlen)
end WrEntry
theorem fm_map {α : Type} {f : Nat → Option α} {is : List Nat} {l : List α} (h : is.map f = l.map some) : is.filterMap f = l := by
  have h1 : is.filterMap f = (is.map f).filterMap id := by rw [List.filterMap_map]; rfl
  rw [h1, h, List.filterMap_map]
  exact List.filterMap_some
def CaI (own : String) (index : Nat) (y : MethodName) (bytes : ByteArray) (maxL n : Nat) : Prop := Cond.methodLink own index y ∈ lwg ∧ Cond.instanceMethod y ∈ lwg ∧ Cond.initialized y.cls ∈ lwg ∧ Cond.code y bytes maxL none ∈ lwg ∧ y.name = "<init>" ∧ y.cls ≠ "java/lang/invoke/MethodHandle" ∧ y.cls ≠ "java/lang/invoke/VarHandle" ∧ (parseMethodDescriptor y.desc).map (fun d => d.parameters.length) = some n
section WrRows
variable {p : Program} {l : Launch} {e : Env} {R : Room} {s : State} {m : MethodId} {args : Array Value} {below : List Frame} {meth : Method} {c : Code} {H : Heap} {locs : List Loc} {cells slots : Nat} {Q : State → Prop} {cc : ByteArray} {pc : Nat} {ls : Array Slot} {rest : List Value} {D : va_G} {A : Nat → Prop} {mc ms : Nat} {w' : WF} {t' : TF} {q : Nat → Nat} {k : Nat → ClassId} {g : Nat → Nat → Int32} {gl : Nat → Nat → Int64}
theorem wr_v (hx : p.tables.exec = Jvm.exec) (hb : c.code = cc) (hr : meth.sig.returnType = none) (hlocks : meth.locks = false) (hS : va_S A s.heap H locs) (hP : va_P D vwCl (w' q k g gl) H) (hK : va_K D vwCl (t' k) s) (hD : va_D A (w' q k g gl)) (hdg : decode cc pc = .ok (.return_, 1)) : W p l e R s m args below meth c H locs mc ms (MQ below (QWv D w' t' A) args s mc ms A) (F0 m pc ls []) :=
  W.vret hx hb hr (fun t ht hW => ⟨⟨(), rfl, trivial, q, k, g, gl, by rw [ht]; exact hP, va_K.moved hW.alike hK, hD⟩, hS.F ht⟩) hS.2.2 hdg hlocks
theorem wr_i {v r : Int32} (hx : p.tables.exec = Jvm.exec) (hb : c.code = cc) (hr : meth.sig.returnType = some .int) (hlocks : meth.locks = false) (hv : v = r) (hS : va_S A s.heap H locs) (hP : va_P D vwCl (w' q k g gl) H) (hK : va_K D vwCl (t' k) s) (hD : va_D A (w' q k g gl)) (hdg : decode cc pc = .ok (.ireturn, 1)) : W p l e R s m args below meth c H locs mc ms (MQ below (QWi D r w' t' A) args s mc ms A) (F0 m pc ls [.int v]) :=
  W.iret hx hb hr (fun t ht hW => ⟨⟨v, (), rfl, hv, q, k, g, gl, by rw [ht]; exact hP, va_K.moved hW.alike hK, hD⟩, hS.F ht⟩) hS.2.2 hdg hlocks
theorem wr_z {v r : Int32} (hx : p.tables.exec = Jvm.exec) (hb : c.code = cc) (hr : meth.sig.returnType = some .boolean) (hlocks : meth.locks = false) (hn : narrow .boolean (.int v) = .int v) (hv : v = r) (hS : va_S A s.heap H locs) (hP : va_P D vwCl (w' q k g gl) H) (hK : va_K D vwCl (t' k) s) (hD : va_D A (w' q k g gl)) (hdg : decode cc pc = .ok (.ireturn, 1)) : W p l e R s m args below meth c H locs mc ms (MQ below (QWi D r w' t' A) args s mc ms A) (F0 m pc ls [.int v]) :=
  W.zret hx hb hr hn (fun t ht hW => ⟨⟨v, (), rfl, hv, q, k, g, gl, by rw [ht]; exact hP, va_K.moved hW.alike hK, hD⟩, hS.F ht⟩) hS.2.2 hdg hlocks
variable {own C : String} {index maxL n nL d : Nat} {y : MethodName} {bytes : ByteArray} {ret : Option FieldType} {b : Nat} {As : List Value} {ws wc wr : va_W} {tys tyc : List (ClassId × FieldType)} {E : State → Prop} {isC isR isT : List Nat} {st0 : List Value} {r : Int32}
/-- what a caller says of the callee's cells: their places, the places of the rest -/
def Cut (ws wc wr : va_W) (isC isR : List Nat) : Prop := isC.map (fun i => ws[i]?) = wc.map some ∧ va_nd isC = true ∧ isR.map (fun i => ws[i]?) = wr.map some ∧ va_nd isR = true ∧ ∀ i ∈ isR, i ∉ isC
theorem wr_back {H1 : Heap} {t : State} (hP : va_P D vwCl ws H) (hD : va_D A ws) (hK : va_K D vwCl tys s) (hS : va_S A s.heap H locs) (hA : ∀ q : Nat, s.heap.size ≤ q → A q) (hcut : Cut ws wc wr isC isR) (ht : t.heap = H1) (hvm : s.vm.Alike t.vm) (hk1 : ∀ q : Nat, q < H.size → ¬ va_A wc H.size q → H1[q]? = H[q]?) (hP1 : va_P D vwCl (w' q k g gl) t.heap) (hK1 : va_K D vwCl (t' k) t) (hD1 : va_D (va_A wc H.size) (w' q k g gl)) : va_P D vwCl (wr ++ w' q k g gl) H1 ∧ va_D A (wr ++ w' q k g gl) ∧ va_K D vwCl (tys ++ t' k) s := by
  obtain ⟨hC, hCn, hR, hRn, hdis⟩ := hcut
  rw [ht] at hP1
  obtain ⟨h1, h2⟩ := va_join hP hD isC isR hC hR hRn hdis hk1 (va_free hD hS hA isC hC) hP1 hD1
  exact ⟨h1, h2, hK.app (va_K.moved hvm.symm hK1)⟩
theorem wr_I (hca : CaI own index y bytes maxL n) (hx : p.tables.exec = Jvm.exec) (hb : c.code = cc) (hml : c.maxLocals = nL) (hown : s.vm.findClass own = some m.cls) (hts : ∀ w ∈ lwg, w.before args s = true) (hP : va_P D vwCl ws H) (hD : va_D A ws) (hK : va_K D vwCl tys s) (hS : va_S A s.heap H locs) (hA : ∀ q : Nat, s.heap.size ≤ q → A q) (hcut : Cut ws wc wr isC isR) (hT : isT.filterMap (fun i => tys[i]?) = tyc) (hM : Wv l y bytes maxL d mc ms D wc tyc (.ref b :: As) H.size E w' t') (hE : bl E) (hEs : ∀ U : State, U.heap = H → s.WarmedH U.vm → E U) (hRm : d + 1 ≤ R.frames ∧ 8 + (maxL + 11) + 64 * d ≤ R.locals) (hn : As.length = n) (hl : ls.size = nL) (hst : (rest.map fun v => v.category).sum ≤ 8) (hf : cells + mc ≤ R.cells ∧ slots + ms ≤ R.slots) (hdg : decode cc pc = .ok (.invokespecial index, 3)) (h0 : st0 = As.reverse ++ .ref b :: rest)
    (kk : ∀ (q : Nat → Nat) (k : Nat → ClassId) (g : Nat → Nat → Int32) (gl : Nat → Nat → Int64) (H1 : Heap) (locs1 : List Loc), va_P D vwCl (wr ++ w' q k g gl) H1 → va_D A (wr ++ w' q k g gl) → va_K D vwCl (tys ++ t' k) s → va_S A s.heap H1 locs1 → W p l e R s m args below meth c H1 locs1 (cells + mc) (slots + ms) Q (F0 m (pc + 3) ls rest)) : W p l e R s m args below meth c H locs cells slots Q (F0 m pc ls st0) := by
  subst h0
  have hPc := hP.sub isC (fm_map hcut.1)
  have hDc := hD.sub isC hcut.2.1 hcut.1
  have hKc := hK.sub isT hT
  have hFc := va_free hD hS hA isC hcut.1
  obtain ⟨k1, k2, k3, k4, k5, k6⟩ := hca
  refine va_callv (va_runI (As := As) (rest := rest) ⟨hx, hb, hml, hown, hts⟩ hM ⟨callB_of n hts (wu_goodC k4) rfl rfl rfl (hts _ k3) (hts _ k1) k6 hRm, k5, hts _ k2⟩ ⟨PW_blind hE, PW_of hPc hKc hDc hEs⟩ rfl hn hl rfl (lv_room hst) hdg hf) hS (fun q _ h => hFc q h) hFc (fun u t H1 locs1 ht hvm hw hB hz1 hk1 hS1 => ?_)
  obtain ⟨q, k, g, gl, hP1, hK1, hD1⟩ := hB
  obtain ⟨a1, a2, a3⟩ := wr_back hP hD hK hS hA hcut ht hvm hk1 hP1 hK1 hD1
  exact kk q k g gl H1 locs1 a1 a2 a3 hS1
theorem wr_N {host : String} (hlk : va_Nw (.methodLinkNest own index y host) s) (k2 : Cond.instanceMethod y ∈ lwg) (k3 : Cond.initialized y.cls ∈ lwg) (k4 : Cond.code y bytes maxL none ∈ lwg) (k5 : y.name = "<init>") (k6 : y.cls ≠ "java/lang/invoke/MethodHandle" ∧ y.cls ≠ "java/lang/invoke/VarHandle" ∧ (parseMethodDescriptor y.desc).map (fun d => d.parameters.length) = some n) (hx : p.tables.exec = Jvm.exec) (hb : c.code = cc) (hml : c.maxLocals = nL) (hown : s.vm.findClass own = some m.cls) (hts : ∀ w ∈ lwg, w.before args s = true) (hP : va_P D vwCl ws H) (hD : va_D A ws) (hK : va_K D vwCl tys s) (hS : va_S A s.heap H locs) (hA : ∀ q : Nat, s.heap.size ≤ q → A q) (hcut : Cut ws wc wr isC isR) (hT : isT.filterMap (fun i => tys[i]?) = tyc) (hM : Wv l y bytes maxL d mc ms D wc tyc (.ref b :: As) H.size E w' t') (hE : bl E) (hEs : ∀ U : State, U.heap = H → s.WarmedH U.vm → E U) (hRm : d + 1 ≤ R.frames ∧ 8 + (maxL + 11) + 64 * d ≤ R.locals) (hn : As.length = n) (hl : ls.size = nL) (hst : (rest.map fun v => v.category).sum ≤ 8) (hf : cells + mc ≤ R.cells ∧ slots + ms ≤ R.slots) (hdg : decode cc pc = .ok (.invokespecial index, 3)) (h0 : st0 = As.reverse ++ .ref b :: rest)
    (kk : ∀ (q : Nat → Nat) (k : Nat → ClassId) (g : Nat → Nat → Int32) (gl : Nat → Nat → Int64) (H1 : Heap) (locs1 : List Loc), va_P D vwCl (wr ++ w' q k g gl) H1 → va_D A (wr ++ w' q k g gl) → va_K D vwCl (tys ++ t' k) s → va_S A s.heap H1 locs1 → W p l e R s m args below meth c H1 locs1 (cells + mc) (slots + ms) Q (F0 m (pc + 3) ls rest)) : W p l e R s m args below meth c H locs cells slots Q (F0 m pc ls st0) := by
  subst h0
  have hPc := hP.sub isC (fm_map hcut.1)
  have hDc := hD.sub isC hcut.2.1 hcut.1
  have hKc := hK.sub isT hT
  have hFc := va_free hD hS hA isC hcut.1
  refine va_callv (va_runIN (As := As) (rest := rest) ⟨hx, hb, hml, hown, hts⟩ hM ⟨va_cnB n hts (wu_goodC k4) rfl rfl rfl hlk (hts _ k3) k6 hRm, k5, hts _ k2⟩ ⟨PW_blind hE, PW_of hPc hKc hDc hEs⟩ rfl hn hl rfl (lv_room hst) hdg hf) hS (fun q _ h => hFc q h) hFc (fun u t H1 locs1 ht hvm hw hB hz1 hk1 hS1 => ?_)
  obtain ⟨q, k, g, gl, hP1, hK1, hD1⟩ := hB
  obtain ⟨a1, a2, a3⟩ := wr_back hP hD hK hS hA hcut ht hvm hk1 hP1 hK1 hD1
  exact kk q k g gl H1 locs1 a1 a2 a3 hS1
theorem wr_V {ci q0 N : Nat} {T : u_T} {fs : List Value} (hca : CaV own C index y bytes maxL none n) (hx : p.tables.exec = Jvm.exec) (hb : c.code = cc) (hml : c.maxLocals = nL) (hown : s.vm.findClass own = some m.cls) (hts : ∀ w ∈ lwg, w.before args s = true) (hP : va_P D vwCl ws H) (hD : va_D A ws) (hK : va_K D vwCl tys s) (hS : va_S A s.heap H locs) (hA : ∀ q : Nat, s.heap.size ≤ q → A q) (hcut : Cut ws wc wr isC isR) (hT : isT.filterMap (fun i => tys[i]?) = tyc) (hM : Wv l y bytes maxL d mc ms D wc tyc (.ref b :: As) H.size E w' t') (hE : bl E) (hEs : ∀ U : State, U.heap = H → s.WarmedH U.vm → E U) (hc : vwCl[ci]? = some (C, T, N)) (he : ws[q0]? = some (b, .inr (ci, fs))) (hRm : d + 1 ≤ R.frames ∧ 8 + (maxL + 11) + 64 * d ≤ R.locals) (hn : As.length = n) (hl : ls.size = nL) (hst : (rest.map fun v => v.category).sum ≤ 8) (hf : cells + mc ≤ R.cells ∧ slots + ms ≤ R.slots) (hdg : decode cc pc = .ok (.invokevirtual index, 3)) (h0 : st0 = As.reverse ++ .ref b :: rest)
    (kk : ∀ (q : Nat → Nat) (k : Nat → ClassId) (g : Nat → Nat → Int32) (gl : Nat → Nat → Int64) (H1 : Heap) (locs1 : List Loc), va_P D vwCl (wr ++ w' q k g gl) H1 → va_D A (wr ++ w' q k g gl) → va_K D vwCl (tys ++ t' k) s → va_S A s.heap H1 locs1 → W p l e R s m args below meth c H1 locs1 (cells + mc) (slots + ms) Q (F0 m (pc + 3) ls rest)) : W p l e R s m args below meth c H locs cells slots Q (F0 m pc ls st0) := by
  subst h0
  have hPc := hP.sub isC (fm_map hcut.1)
  have hDc := hD.sub isC hcut.2.1 hcut.1
  have hKc := hK.sub isT hT
  have hFc := va_free hD hS hA isC hcut.1
  refine va_callv (va_runV (As := As) (rest := rest) ⟨hx, hb, hml, hown, hts⟩ hM (hca.cw hts rfl rfl hRm) ⟨PW_blind hE, va_recv hK hP hc he, PW_of hPc hKc hDc hEs⟩ rfl hn hl rfl (lv_room hst) hdg hf) hS (fun q _ h => hFc q h) hFc (fun u t H1 locs1 ht hvm hw hB hz1 hk1 hS1 => ?_)
  obtain ⟨q, k, g, gl, hP1, hK1, hD1⟩ := hB
  obtain ⟨a1, a2, a3⟩ := wr_back hP hD hK hS hA hcut ht hvm hk1 hP1 hK1 hD1
  exact kk q k g gl H1 locs1 a1 a2 a3 hS1
theorem wr_Vi {ci q0 N : Nat} {T : u_T} {fs : List Value} (hca : CaV own C index y bytes maxL ret n) (hx : p.tables.exec = Jvm.exec) (hb : c.code = cc) (hml : c.maxLocals = nL) (hown : s.vm.findClass own = some m.cls) (hts : ∀ w ∈ lwg, w.before args s = true) (hP : va_P D vwCl ws H) (hD : va_D A ws) (hK : va_K D vwCl tys s) (hS : va_S A s.heap H locs) (hA : ∀ q : Nat, s.heap.size ≤ q → A q) (hcut : Cut ws wc wr isC isR) (hT : isT.filterMap (fun i => tys[i]?) = tyc) (hM : Wi l y bytes maxL ret d mc ms D wc tyc (.ref b :: As) H.size E r w' t') (hE : bl E) (hEs : ∀ U : State, U.heap = H → s.WarmedH U.vm → E U) (hc : vwCl[ci]? = some (C, T, N)) (he : ws[q0]? = some (b, .inr (ci, fs))) (hRm : d + 1 ≤ R.frames ∧ 8 + (maxL + 11) + 64 * d ≤ R.locals) (hn : As.length = n) (hl : ls.size = nL) (hst : (rest.map fun v => v.category).sum ≤ 8) (hf : cells + mc ≤ R.cells ∧ slots + ms ≤ R.slots) (hdg : decode cc pc = .ok (.invokevirtual index, 3)) (h0 : st0 = As.reverse ++ .ref b :: rest)
    (kk : ∀ (q : Nat → Nat) (k : Nat → ClassId) (g : Nat → Nat → Int32) (gl : Nat → Nat → Int64) (H1 : Heap) (locs1 : List Loc), va_P D vwCl (wr ++ w' q k g gl) H1 → va_D A (wr ++ w' q k g gl) → va_K D vwCl (tys ++ t' k) s → va_S A s.heap H1 locs1 → W p l e R s m args below meth c H1 locs1 (cells + mc) (slots + ms) Q (F0 m (pc + 3) ls (.int r :: rest))) : W p l e R s m args below meth c H locs cells slots Q (F0 m pc ls st0) := by
  subst h0
  have hPc := hP.sub isC (fm_map hcut.1)
  have hDc := hD.sub isC hcut.2.1 hcut.1
  have hKc := hK.sub isT hT
  have hFc := va_free hD hS hA isC hcut.1
  refine va_calli (va_runV (As := As) (rest := rest) ⟨hx, hb, hml, hown, hts⟩ hM (hca.cw hts rfl rfl hRm) ⟨PW_blind hE, va_recv hK hP hc he, PW_of hPc hKc hDc hEs⟩ rfl hn hl rfl (lv_room hst) hdg hf) hS (fun q _ h => hFc q h) hFc (fun r1 u t H1 locs1 ht hvm hw hB hz1 hk1 hS1 => ?_)
  obtain ⟨q, k, g, gl, hP1, hK1, hD1⟩ := hB
  obtain ⟨a1, a2, a3⟩ := wr_back hP hD hK hS hA hcut ht hvm hk1 hP1 hK1 hD1
  rw [show r1 = r from hw]
  exact kk q k g gl H1 locs1 a1 a2 a3 hS1
end WrRows
end
section
/-! new objects' fields; new T[n][m] whose rows are forgotten; readers over other facts than cells; void readers; strings -/
set_option maxRecDepth 20000 in
theorem dfX0 : ∀ j, j < 3 → defaultValue (tyX0 j) = vp_V [.null, .null, .int 0] j := by decide +kernel
set_option maxRecDepth 20000 in
theorem dfX1 : ∀ j, j < 13 → defaultValue (tyX1 j) = vp_V [.null, .null, .null, .null, .null, .null, .null, .int 0, .int 0, .int 0, .int 0, .int 0, .int 0] j := by decide +kernel
set_option maxRecDepth 20000 in
theorem dfX2 : ∀ j, j < 3 → defaultValue (tyX2 j) = vp_V [.null, .null, .null] j := by decide +kernel
set_option maxRecDepth 20000 in
theorem dfX3 : ∀ j, j < 18 → defaultValue (tyX3 j) = vp_V [.null, .null, .int 0, .null, .null, .int 0, .int 0, .int 0, .null, .null, .null, .null, .null, .null, .null, .null, .null, .int 0] j := by decide +kernel
set_option maxRecDepth 20000 in
theorem dfX4 : ∀ j, j < 3 → defaultValue (tyX4 j) = vp_V [.null, .null, .null] j := by decide +kernel
set_option maxRecDepth 20000 in
theorem dfX5 : ∀ j, j < 16 → defaultValue (tyX5 j) = vp_V [.int 0, .int 0, .int 0, .int 0, .null, .null, .null, .null, .null, .int 0, .int 0, .int 0, .null, .null, .null, .int 0] j := by decide +kernel
set_option maxRecDepth 20000 in
theorem dfX6 : ∀ j, j < 14 → defaultValue (tyX6 j) = vp_V [.null, .null, .null, .null, .int 0, .int 0, .int 0, .int 0, .null, .int 0, .int 0, .null, .null, .int 0] j := by decide +kernel
set_option maxRecDepth 20000 in
theorem dfX7 : ∀ j, j < 2 → defaultValue (tyX7 j) = vp_V [.null, .null] j := by decide +kernel
set_option maxRecDepth 20000 in
theorem dfX8 : ∀ j, j < 11 → defaultValue (tyX8 j) = vp_V [.null, .null, .null, .int 0, .int 0, .int 0, .int 0, .int 0, .int 0, .int 0, .int 0] j := by decide +kernel
set_option maxRecDepth 20000 in
theorem dfX9 : ∀ j, j < 5 → defaultValue (tyX9 j) = vp_V [.null, .null, .null, .null, .int 0] j := by decide +kernel
set_option maxRecDepth 20000 in
theorem dfX10 : ∀ j, j < 7 → defaultValue (tyX10 j) = vp_V [.null, .null, .null, .int 0, .null, .int 0, .int 0] j := by decide +kernel
set_option maxRecDepth 20000 in
theorem dfX11 : ∀ j, j < 14 → defaultValue (tyX11 j) = vp_V [.null, .int 0, .null, .null, .null, .null, .null, .null, .null, .null, .null, .null, .null, .null] j := by decide +kernel
set_option maxRecDepth 20000 in
theorem dfX12 : ∀ j, j < 95 → defaultValue (tyX12 j) = vp_V [.int 0, .null, .int 0, .null, .int 0, .null, .null, .null, .null, .null, .int 0, .int 0, .int 0, .int 0, .int 0, .int 0, .int 0, .int 0, .int 0, .int 0, .int 0, .null, .null, .null, .null, .null, .null, .null, .null, .null, .int 0, .null, .null, .null, .null, .null, .null, .int 0, .null, .null, .null, .int 0, .null, .null, .int 0, .int 0, .null, .int 0, .int 0, .null, .null, .null, .null, .int 0, .int 0, .int 0, .null, .null, .null, .int 0, .int 0, .int 0, .null, .null, .null, .null, .null, .null, .null, .int 0, .null, .int 0, .null, .null, .null, .null, .null, .null, .int 0, .int 0, .int 0, .null, .int 0, .int 0, .null, .null, .int 0, .null, .null, .null, .null, .null, .null, .null, .null] j := by decide +kernel
def AOA (ty : FieldType) (U : State) : Prop := (Cond.arrayOver (.array ty)).before #[] U = true
theorem AOA.spec {t : FieldType} {s : State} (h : AOA t s) :
    ∃ comp c k, s.vm.findClass (FieldType.array t).toString = some comp ∧ (s.vm.classes.findIdx? fun (x : Class) => match x.kind with | .array component _ => component == comp | _ => false) = some c ∧ s.vm.classes[c]? = some k ∧ k.kind = .array comp (.array t) ∧ s.vm.findClass ("[" ++ (FieldType.array t).toString) = some c := by
  unfold AOA Cond.before at h
  simp only [Cond.holds, Cond.value, beq_iff_eq] at h
  cases hc : s.vm.findClass (FieldType.array t).toString with
  | none => simp [hc] at h
  | some comp =>
    simp only [hc, Option.bind_some, Option.bind_eq_some_iff, Option.map_eq_some_iff] at h
    obtain ⟨c, hi, k, hk, hb⟩ := h
    obtain ⟨hlt, hp, -⟩ := Array.findIdx?_eq_some_iff_getElem.mp hi
    have hkk : s.vm.classes[c] = k := (Array.getElem?_eq_some_iff.mp hk).2
    rw [hkk] at hp
    cases hkind : k.kind with
    | array component ty =>
      rw [hkind] at hb hp
      simp at hb hp
      exact ⟨comp, c, k, rfl, hi, hk, by rw [hkind, hp, hb.1], hb.2⟩
    | _ => rw [hkind] at hb; simp at hb
theorem AOA.moved {ty : FieldType} {u U : State} (hvm : u.vm.Alike U.vm) (h : AOA ty u) : AOA ty U := by
  obtain ⟨comp, c, k, h1, h2, h3, h4, h5⟩ := AOA.spec h
  obtain ⟨k', hk', he⟩ := hvm.2.2 _ _ h3
  have hi : (U.vm.classes.findIdx? fun (x : Class) => match x.kind with | .array component _ => component == comp | _ => false) = some c := by
    have e1 := va_idx_bare U.vm comp
    have e2 := va_idx_bare u.vm comp
    first | rw [hvm.bare_eq] at e2 | rw [← hvm.bare_eq] at e2
    exact e1.symm.trans (e2.trans h2)
  have hkind : k'.kind = .array comp (.array ty) := by rw [he]; exact h4
  have f1 : U.vm.findClass (FieldType.array ty).toString = some comp := by rw [hvm.findClass]; exact h1
  have f2 : U.vm.findClass ("[" ++ (FieldType.array ty).toString) = some c := by rw [hvm.findClass]; exact h5
  unfold AOA Cond.before Cond.holds
  simp only [Cond.value]
  rw [f1, Option.bind_some]
  refine (congrArg (fun o : Option Nat => (o.bind (fun c => (U.vm.classes[c]?).map fun (k : Class) => match k.kind with | .array _ t => decide (t = FieldType.array ty) && decide (U.vm.findClass ("[" ++ (FieldType.array ty).toString) = some c) | _ => false) == some true)) hi).trans ?_
  simp [hk', hkind, f2]
section Mna
variable {p : Program} {l : Launch} {e : Env} {R : Room} {s : State} {m : MethodId} {args : Array Value} {below : List Frame} {meth : Method} {c : Code} {H : Heap} {locs : List Loc} {cells slots : Nat} {Q : State → Prop} {cc : ByteArray} {pc : Nat} {ls : Array Slot} {rest : List Value} {D : va_G} {A : Nat → Prop} {ws : va_W} {H0 : Heap}
theorem z_mna (hexec : p.tables.exec = Jvm.exec) (hb : c.code = cc) {own : String} {index : Nat} {ty : FieldType} (hown : s.vm.findClass own = some m.cls) (hclink : (Cond.classLink own index ("[" ++ (FieldType.array ty).toString)).before args s = true) (hover : AOA ty s) (harr : (Cond.arrayClass ty).before args s = true)
    (hP : va_P D vwCl ws H) (hS : va_S A H0 H locs) {n k : Int32} {N' K' : Nat} (hn : ¬ n < 0) (hk : ¬ k < 0) (hN : n.toNatClampNeg = N') (hM : k.toNatClampNeg = K')
    (hb1 : N' * 4 ≤ 536870912) (hb2 : K' * componentBytes ty ≤ 536870912) (hb3 : K' ≤ 536870912) (hdf : fits ty (defaultValue ty) = true) (hdd : (defaultValue ty).isDefault = true) (hcells : cells + (1 + N') ≤ R.cells) (hslots : slots + (N' + N' * K') ≤ R.slots) (hdg : decode cc pc = .ok (.multianewarray index 2, 4))
    (kk : ∀ (q : Nat) (H1 : Heap), va_P D vwCl ws H1 → va_S A H0 H1 locs → W p l e R s m args below meth c H1 locs (cells + 1 + N') (slots + N' + N' * K') Q (F0 m (pc + 4) ls (.ref q :: rest))) : W p l e R s m args below meth c H locs cells slots Q (F0 m pc ls (.int k :: .int n :: rest)) := by
  subst hN
  subst hM
  intro T hT Xs
  obtain ⟨vm₁, cA, comp, -, fA, fC, hO, -, X', step⟩ := Xs.multianewarray2F hexec hown hclink hover harr (g := F0 m pc ls (.int k :: .int n :: rest)) rfl (by rw [hb]; exact hdg) rfl hn hk hb1 hb2 hb3 hdf hdd hcells hslots
  generalize hF : Jvm.Free.Multi.fill (T.setVm vm₁) cA comp n.toNatClampNeg k.toNatClampNeg (defaultValue ty) n.toNatClampNeg = F at X' step
  have hTh : (T.setVm vm₁).heap = H := hT
  obtain ⟨f1, f2, -, -⟩ := Jvm.Free.Multi.fill_facts (T.setVm vm₁) cA comp n.toNatClampNeg k.toNatClampNeg (defaultValue ty) n.toNatClampNeg
  rw [hF, hTh] at f1 f2
  have hold : ∀ x : Nat, x < H.size → F.heap[x]? = H[x]? := fun x hx => by
    have := Jvm.Free.Multi.fill_old (T.setVm vm₁) cA comp n.toNatClampNeg k.toNatClampNeg (defaultValue ty) (a := x) (by rw [hTh]; exact hx) n.toNatClampNeg
    rw [hF, hTh] at this
    exact this
  obtain ⟨t, a1, b1⟩ := kk H.size F.heap (hP.kept (fun k9 x hx => hold x.1 ((hP k9 x hx).lt))) ⟨by rw [f1]; have := hS.1; omega, fun x h1 h2 => (hold x (Nat.lt_of_lt_of_le h1 hS.1)).trans (hS.2.1 x h1 h2), hS.2.2⟩ F rfl X'
  refine ⟨t, step t ?_, b1⟩
  have e : T.heap.size = H.size := by rw [hT]
  rw [e]
  exact a1
end Mna
/-- a reader over facts E of the state -/
def RdE (l : Launch) (y : MethodName) (c : ByteArray) (n : Nat) (ret : Option FieldType) (d : Nat) (E : State → Prop) (av : List Value) (r : Value) : Prop := Met l y (wU y c n ret) (rmU d 0 0) (va_Pc av E) (k2_QcV r) 0 0 (fun _ => False)
def k_QN : Array Value → State → Outcome → State → Prop := fun _ st o t => o = .returned none ∧ t.heap = st.heap
def RdN (l : Launch) (y : MethodName) (c : ByteArray) (n d : Nat) (E : State → Prop) (av : List Value) : Prop := Met l y (wU y c n none) (rmU d 0 0) (va_Pc av E) k_QN 0 0 (fun _ => False)
theorem RdE.of {l : Launch} {y : MethodName} {cc : ByteArray} {maxL : Nat} {ret : Option FieldType} {d : Nat} {E : State → Prop} {av : List Value} {r : Value} (hy : plainName y.cls = true) (hlen : (lg_sl av).length ≤ maxL)
    (body : ∀ (p : Program) (e : Env) (s : State) (m : MethodId) (below : List Frame) (meth : Method) (c : Code) (ls : Array Slot), p.tables.exec = Jvm.exec → c.code = cc → meth.sig.returnType = ret → c.maxLocals = maxL → s.vm.findClass y.cls = some m.cls → (∀ w ∈ lwg, w.before av.toArray s = true) → meth.locks = false → E s → lv_has ls maxL (lv_args 0 av) →
      W p l e (rmU d 0 0) s m av.toArray below meth c s.heap [] 0 0 (MQ below (k2_QcV r) av.toArray s 0 0 (fun _ => False)) (F0 m 0 ls [])) : RdE l y cc maxL ret d E av r := by
  refine Met.ofW (cc := cc) (maxL := maxL) (ret := ret) hy rfl ?_
  intro p e s m args below meth c s₁ B hml hv
  obtain ⟨rfl, hE⟩ := hv
  rw [lg_entry_eq]
  exact body p e s m below meth c _ B.exec B.bytes B.returns hml (findClass_of_methodNamed B.named) (fun w h => atoms_spec (ws := wU y cc maxL ret) B.pre w (List.mem_cons_of_mem _ h)) B.notSynchronized hE (lv_entry av hlen)
theorem RdN.of {l : Launch} {y : MethodName} {cc : ByteArray} {maxL : Nat} {d : Nat} {E : State → Prop} {av : List Value} (hy : plainName y.cls = true) (hlen : (lg_sl av).length ≤ maxL)
    (body : ∀ (p : Program) (e : Env) (s : State) (m : MethodId) (below : List Frame) (meth : Method) (c : Code) (ls : Array Slot), p.tables.exec = Jvm.exec → c.code = cc → meth.sig.returnType = none → c.maxLocals = maxL → s.vm.findClass y.cls = some m.cls → (∀ w ∈ lwg, w.before av.toArray s = true) → meth.locks = false → E s → lv_has ls maxL (lv_args 0 av) →
      W p l e (rmU d 0 0) s m av.toArray below meth c s.heap [] 0 0 (MQ below k_QN av.toArray s 0 0 (fun _ => False)) (F0 m 0 ls [])) : RdN l y cc maxL d E av := by
  refine Met.ofW (cc := cc) (maxL := maxL) (ret := none) hy rfl ?_
  intro p e s m args below meth c s₁ B hml hv
  obtain ⟨rfl, hE⟩ := hv
  rw [lg_entry_eq]
  exact body p e s m below meth c _ B.exec B.bytes B.returns hml (findClass_of_methodNamed B.named) (fun w h => atoms_spec (ws := wU y cc maxL none) B.pre w (List.mem_cons_of_mem _ h)) B.notSynchronized hE (lv_entry av hlen)
theorem PE_blind {E : State → Prop} {av : List Value} (h : bl E) : FrameBlind (va_Pc av E) := fun a U g mk q => ⟨q.1, h a U g mk q.2⟩
section RdERows
variable {p : Program} {l : Launch} {e : Env} {R : Room} {s : State} {m : MethodId} {args : Array Value} {below : List Frame} {meth : Method} {c : Code} {H : Heap} {locs : List Loc} {cells slots : Nat} {Q : State → Prop} {cc : ByteArray} {pc : Nat} {ls : Array Slot} {rest : List Value}
variable {own C : String} {index maxL n nL d : Nat} {y : MethodName} {bytes : ByteArray} {ret : Option FieldType} {r : Value} {b : Nat} {As : List Value} {E : State → Prop} {st0 : List Value} {a : Array Value} {g : JFrame}
theorem rd_b {v : Int32} {r : Value} {ty : FieldType} (hx : p.tables.exec = Jvm.exec) (hb : c.code = cc) (hr : meth.sig.returnType = some ty) (hlocks : meth.locks = false) (hn : narrow ty (.int v) = .int v) (hv : Value.int v = r) (hdg : decode cc pc = .ok (.ireturn, 1)) : W p l e R s m args below meth c s.heap [] 0 0 (MQ below (k2_QcV r) args s 0 0 (fun _ => False)) (F0 m pc ls [.int v]) := W.zret hx hb hr hn (fun t ht _ => ⟨by rw [hv], ht⟩) (fun q h => absurd h List.not_mem_nil) hdg hlocks
theorem rd_n (hx : p.tables.exec = Jvm.exec) (hb : c.code = cc) (hr : meth.sig.returnType = none) (hlocks : meth.locks = false) (hdg : decode cc pc = .ok (.return_, 1)) : W p l e R s m args below meth c s.heap [] 0 0 (MQ below k_QN args s 0 0 (fun _ => False)) (F0 m pc ls []) := W.vret hx hb hr (fun t ht _ => ⟨rfl, ht⟩) (fun q h => absurd h List.not_mem_nil) hdg hlocks
theorem W_callN (hr : CallRun p l e R s m args below meth c H locs cells slots 0 0 g rest (k_QN a) (fun _ => False)) (kk : W p l e R s m args below meth c H locs cells slots Q { g with pc := g.pc + 3, stack := rest }) : W p l e R s m args below meth c H locs cells slots Q g := by
  intro T hT X
  obtain ⟨v, st₀, t, T', L, h0, X', hL, e1, ⟨hv, hh⟩, st⟩ := hr T hT X
  cases hv
  obtain ⟨t2, a1, b1⟩ := kk T' (by rw [e1, hh, h0]) (Stand.forget X' (fun q h => (hL q h).elim))
  exact ⟨t2, st t2 a1, b1⟩
theorem re_V (hca : CaV own C index y bytes maxL ret n) (hx : p.tables.exec = Jvm.exec) (hb : c.code = cc) (hml : c.maxLocals = nL) (hown : s.vm.findClass own = some m.cls) (hts : ∀ w ∈ lwg, w.before args s = true) (hM : RdE l y bytes maxL ret d E (.ref b :: As) r) (hE : bl E) (hEs : ∀ U : State, U.heap = H → s.WarmedH U.vm → E U) (hrc : ∃ cellB : Cell, H[b]? = some cellB ∧ cellB.vm.isStatics = false ∧ s.vm.findClass C = some cellB.cls) (hR : d + 1 ≤ R.frames ∧ 8 + (maxL + 11) + 64 * d ≤ R.locals) (hn : As.length = n) (hl : ls.size = nL) (hst : (rest.map fun v => v.category).sum ≤ 8) (hf : cells ≤ R.cells ∧ slots ≤ R.slots) (hdg : decode cc pc = .ok (.invokevirtual index, 3)) (h0 : st0 = As.reverse ++ .ref b :: rest)
    (kk : W p l e R s m args below meth c H locs cells slots Q (F0 m (pc + 3) ls (r :: rest))) : W p l e R s m args below meth c H locs cells slots Q (F0 m pc ls st0) := by
  subst h0
  exact W.callV (W.runV (rest := rest) (As := As) ⟨hx, hb, hml, hown, hts⟩ hM (hca.cw hts rfl rfl hR) ⟨PE_blind hE, hrc, fun U hU hW => ⟨rfl, hEs U hU hW⟩⟩ rfl hn hl rfl (lv_room hst) hdg hf) kk
theorem re_S (hca : CaS own index y bytes maxL ret n) (hx : p.tables.exec = Jvm.exec) (hb : c.code = cc) (hml : c.maxLocals = nL) (hown : s.vm.findClass own = some m.cls) (hts : ∀ w ∈ lwg, w.before args s = true) (hM : RdE l y bytes maxL ret d E As r) (hE : bl E) (hEs : ∀ U : State, U.heap = H → s.WarmedH U.vm → E U) (hR : d + 1 ≤ R.frames ∧ 8 + (maxL + 11) + 64 * d ≤ R.locals) (hn : As.length = n) (hl : ls.size = nL) (hst : (rest.map fun v => v.category).sum ≤ 8) (hf : cells ≤ R.cells ∧ slots ≤ R.slots) (hdg : decode cc pc = .ok (.invokestatic index, 3)) (h0 : st0 = As.reverse ++ rest)
    (kk : W p l e R s m args below meth c H locs cells slots Q (F0 m (pc + 3) ls (r :: rest))) : W p l e R s m args below meth c H locs cells slots Q (F0 m pc ls st0) := by
  subst h0
  exact W.callV (W.runS (rest := rest) (As := As) ⟨hx, hb, hml, hown, hts⟩ hM (hca.cw hts rfl rfl hR) ⟨PE_blind hE, fun U hU hW => ⟨rfl, hEs U hU hW⟩⟩ rfl hn hl rfl (lv_room hst) hdg hf) kk
theorem re_SN (hca : CaS own index y bytes maxL none n) (hx : p.tables.exec = Jvm.exec) (hb : c.code = cc) (hml : c.maxLocals = nL) (hown : s.vm.findClass own = some m.cls) (hts : ∀ w ∈ lwg, w.before args s = true) (hM : RdN l y bytes maxL d E As) (hE : bl E) (hEs : ∀ U : State, U.heap = H → s.WarmedH U.vm → E U) (hR : d + 1 ≤ R.frames ∧ 8 + (maxL + 11) + 64 * d ≤ R.locals) (hn : As.length = n) (hl : ls.size = nL) (hst : (rest.map fun v => v.category).sum ≤ 8) (hf : cells ≤ R.cells ∧ slots ≤ R.slots) (hdg : decode cc pc = .ok (.invokestatic index, 3)) (h0 : st0 = As.reverse ++ rest)
    (kk : W p l e R s m args below meth c H locs cells slots Q (F0 m (pc + 3) ls rest)) : W p l e R s m args below meth c H locs cells slots Q (F0 m pc ls st0) := by
  subst h0
  exact W_callN (W.runS (rest := rest) (As := As) ⟨hx, hb, hml, hown, hts⟩ hM (hca.cw hts rfl rfl hR) ⟨PE_blind hE, fun U hU hW => ⟨rfl, hEs U hU hW⟩⟩ rfl hn hl rfl (lv_room hst) hdg hf) kk
end RdERows
/-- a string constant: its object, its bytes; and the statics that String's own methods read -/
def StrF (a v n : Nat) (f : Nat → Int32) (fm : Option Nat) (A : Nat → Prop) (U : State) (H : Heap) : Prop := va_O "java/lang/String" a A U H ∧ va_OF "java/lang/String" "coder" "B" (.int 0) a A U H ∧ va_OF "java/lang/String" "value" "[B" (.ref v) a A U H ∧ va_T .byte v n (fun j => .int (f j)) A U H ∧ va_Z "java/lang/String" "COMPACT_STRINGS" "Z" (.int 1) A U H ∧ va_Z "jdk/internal/util/Preconditions" "SIOOBE_FORMATTER" "Ljava/util/function/BiFunction;" (va_rf fm) A U H

theorem StrF.kept {a v n : Nat} {f : Nat → Int32} {fm : Option Nat} {A : Nat → Prop} {U : State} {H H1 : Heap} (h : StrF a v n f fm A U H) (hq : ∀ a : Nat, a < H.size → ¬ A a → H1[a]? = H[a]?) : StrF a v n f fm A U H1 := ⟨h.1.kept hq, h.2.1.kept hq, h.2.2.1.kept hq, h.2.2.2.1.kept hq, h.2.2.2.2.1.kept hq, h.2.2.2.2.2.kept hq⟩
theorem StrF.moved {a v n : Nat} {f : Nat → Int32} {fm : Option Nat} {A : Nat → Prop} {u U : State} {H : Heap} (hvm : u.vm.Alike U.vm) (h : StrF a v n f fm A u H) : StrF a v n f fm A U H := ⟨h.1.moved hvm, h.2.1.moved hvm, h.2.2.1.moved hvm, h.2.2.2.1.moved hvm, h.2.2.2.2.1.moved hvm, h.2.2.2.2.2.moved hvm⟩
theorem StrF.narrow {a v n : Nat} {f : Nat → Int32} {fm : Option Nat} {A B : Nat → Prop} {U : State} {H : Heap} (h : StrF a v n f fm A U H) (hAB : ∀ q, B q → A q) : StrF a v n f fm B U H := ⟨h.1.narrow hAB, h.2.1.narrow hAB, h.2.2.1.narrow hAB, h.2.2.2.1.narrow hAB, h.2.2.2.2.1.narrow hAB, h.2.2.2.2.2.narrow hAB⟩
/-- the same, with nothing that may change -/
def SF (a v n : Nat) (f : Nat → Int32) (fm : Option Nat) (U : State) : Prop := StrF a v n f fm (fun _ => False) U U.heap
theorem SF_bl {a v n : Nat} {f : Nat → Int32} {fm : Option Nat} : bl (SF a v n f fm) := fun ar U g mk h => StrF.moved (u := U) (U := U.calling g mk ar) (Vm.Alike.refl U.vm) h
theorem SF_of {a v n : Nat} {f : Nat → Int32} {fm : Option Nat} {A : Nat → Prop} {s : State} {H : Heap} {locs : List Loc} (h : StrF a v n f fm A s s.heap) (hS : va_S A s.heap H locs) : ∀ U : State, U.heap = H → s.WarmedH U.vm → SF a v n f fm U := fun U hU hW => by
  have h1 : StrF a v n f fm A s H := h.kept (fun q h1 h2 => hS.2.1 q h1 h2)
  have h2 : StrF a v n f fm A U H := h1.moved hW.alike
  have h3 := h2.narrow (B := fun _ => False) (fun _ h => h.elim)
  unfold SF
  rw [hU]
  exact h3
end
section
/-! names of the writers, first part -/
abbrev cX0_init : ByteArray := prog_2_method_1_code
def yX0_init : MethodName := ⟨RX0, "<init>", "()V"⟩
abbrev cX1_init : ByteArray := prog_3_method_1_code
def yX1_init : MethodName := ⟨RX1, "<init>", "(LSignalTable$Laws;LSignalTable$Judge;)V"⟩
abbrev cX10_init : ByteArray := prog_12_method_1_code
def yX10_init : MethodName := ⟨RX10, "<init>", "(LSignalTable$Deals;LSignalTable$Open;)V"⟩
abbrev cX2_init : ByteArray := prog_4_method_1_code
def yX2_init : MethodName := ⟨RX2, "<init>", "(LSignalTable$Game;LSignalTable$Weigher;)V"⟩
abbrev cX3_init : ByteArray := prog_5_method_1_code
def yX3_init : MethodName := ⟨RX3, "<init>", "(LSignalTable$Laws;LSignalTable$Judge;)V"⟩
abbrev cX4_init : ByteArray := prog_6_method_1_code
def yX4_init : MethodName := ⟨RX4, "<init>", "(LSignalTable$Laws;)V"⟩
abbrev cX5_init : ByteArray := prog_7_method_1_code
def yX5_init : MethodName := ⟨RX5, "<init>", "()V"⟩
abbrev cX6_init : ByteArray := prog_8_method_1_code
def yX6_init : MethodName := ⟨RX6, "<init>", "(LSignalTable$Laws;)V"⟩
abbrev cX7_init : ByteArray := prog_9_method_1_code
def yX7_init : MethodName := ⟨RX7, "<init>", "(LSignalTable$Laws;LSignalTable$Judge;)V"⟩
theorem kw_180 : Cond.instanceMethod ⟨"java/lang/Object", "<init>", "()V"⟩ ∈ lwg := wu_mem (i := 180) (by decide +kernel) rfl
theorem kw_181 : Cond.code Lib.objectInit ⟨#[0xb1]⟩ 1 none ∈ lwg := wu_mem (i := 181) (by decide +kernel) rfl
theorem kw_187 : Cond.methodLink "SignalTable$Laws" 3 ⟨"java/lang/Object", "<init>", "()V"⟩ ∈ lwg := wu_mem (i := 187) (by decide +kernel) rfl
theorem kw_205 : Cond.fieldLink "SignalTable$Laws" 9 "SignalTable$Laws" "side" "[I" ∈ lwg := wu_mem (i := 205) (by decide +kernel) rfl
theorem kw_208 : Cond.fieldLink "SignalTable$Laws" 15 "SignalTable$Laws" "kind" "[I" ∈ lwg := wu_mem (i := 208) (by decide +kernel) rfl
theorem kw_212 : Cond.fieldLink "SignalTable$Laws" 18 "SignalTable$Laws" "from" "[I" ∈ lwg := wu_mem (i := 212) (by decide +kernel) rfl
theorem kw_214 : Cond.fieldLink "SignalTable$Laws" 21 "SignalTable$Laws" "to" "[I" ∈ lwg := wu_mem (i := 214) (by decide +kernel) rfl
theorem kw_216 : Cond.fieldLink "SignalTable$Laws" 26 "SignalTable$Laws" "step" "[I" ∈ lwg := wu_mem (i := 216) (by decide +kernel) rfl
theorem kw_231 : Cond.fieldLink "SignalTable$Laws" 29 "SignalTable$Laws" "suitCards" "[I" ∈ lwg := wu_mem (i := 231) (by decide +kernel) rfl
theorem kw_232 : Cond.fieldLink "SignalTable$Open" 35 "SignalTable$Laws" "suitCards" "[I" ∈ lwg := wu_mem (i := 232) (by decide +kernel) rfl
theorem kw_236 : Cond.fieldLink "SignalTable$Laws" 32 "SignalTable$Laws" "suitOf" "[I" ∈ lwg := wu_mem (i := 236) (by decide +kernel) rfl
theorem kw_237 : Cond.fieldLink "SignalTable$Open" 41 "SignalTable$Laws" "suitOf" "[I" ∈ lwg := wu_mem (i := 237) (by decide +kernel) rfl
theorem kw_240 : Cond.fieldLink "SignalTable$Laws" 35 "SignalTable$Laws" "hands" "[I" ∈ lwg := wu_mem (i := 240) (by decide +kernel) rfl
theorem kw_280 : Cond.arrayClass .int ∈ lwg := wu_mem (i := 280) (by decide +kernel) rfl
theorem kw_286 : Cond.methodLink "SignalTable$Judge" 1 ⟨"java/lang/Object", "<init>", "()V"⟩ ∈ lwg := wu_mem (i := 286) (by decide +kernel) rfl
theorem kw_287 : Cond.fieldLink "SignalTable$Judge" 16 "SignalTable$Judge" "laws" "LSignalTable$Laws;" ∈ lwg := wu_mem (i := 287) (by decide +kernel) rfl
theorem kw_288 : Cond.fieldLink "SignalTable$Judge" 9 "SignalTable$Judge" "variable" "[I" ∈ lwg := wu_mem (i := 288) (by decide +kernel) rfl
theorem kw_289 : Cond.fieldLink "SignalTable$Judge" 13 "SignalTable$Judge" "stack" "[I" ∈ lwg := wu_mem (i := 289) (by decide +kernel) rfl
theorem kw_378 : Cond.arrayClass .long ∈ lwg := wu_mem (i := 378) (by decide +kernel) rfl
theorem kw_419 : Cond.methodLink "SignalTable$Game" 3 ⟨"java/lang/Object", "<init>", "()V"⟩ ∈ lwg := wu_mem (i := 419) (by decide +kernel) rfl
theorem kw_420 : Cond.fieldLink "SignalTable$Game" 49 "SignalTable$Game" "laws" "LSignalTable$Laws;" ∈ lwg := wu_mem (i := 420) (by decide +kernel) rfl
theorem kw_421 : Cond.fieldLink "SignalTable$Game" 53 "SignalTable$Game" "judge" "LSignalTable$Judge;" ∈ lwg := wu_mem (i := 421) (by decide +kernel) rfl
theorem kw_424 : Cond.fieldLink "SignalTable$Game" 9 "SignalTable$Game" "dealt" "[I" ∈ lwg := wu_mem (i := 424) (by decide +kernel) rfl
theorem kw_428 : Cond.fieldLink "SignalTable$Game" 15 "SignalTable$Game" "now" "[I" ∈ lwg := wu_mem (i := 428) (by decide +kernel) rfl
theorem kw_444 : Cond.fieldLink "SignalTable$Game" 22 "SignalTable$Game" "cards" "[I" ∈ lwg := wu_mem (i := 444) (by decide +kernel) rfl
theorem kw_449 : Cond.fieldLink "SignalTable$Game" 25 "SignalTable$Game" "who" "[I" ∈ lwg := wu_mem (i := 449) (by decide +kernel) rfl
theorem kw_454 : Cond.fieldLink "SignalTable$Game" 28 "SignalTable$Game" "kind" "[I" ∈ lwg := wu_mem (i := 454) (by decide +kernel) rfl
theorem kw_457 : Cond.fieldLink "SignalTable$Game" 31 "SignalTable$Game" "led" "[I" ∈ lwg := wu_mem (i := 457) (by decide +kernel) rfl
theorem kw_459 : Cond.fieldLink "SignalTable$Game" 34 "SignalTable$Game" "before" "[I" ∈ lwg := wu_mem (i := 459) (by decide +kernel) rfl
theorem kw_462 : Cond.fieldLink "SignalTable$Game" 37 "SignalTable$Game" "broken" "[I" ∈ lwg := wu_mem (i := 462) (by decide +kernel) rfl
theorem kw_464 : Cond.fieldLink "SignalTable$Game" 40 "SignalTable$Game" "applies" "[I" ∈ lwg := wu_mem (i := 464) (by decide +kernel) rfl
theorem kw_469 : Cond.fieldLink "SignalTable$Game" 43 "SignalTable$Game" "lied" "[I" ∈ lwg := wu_mem (i := 469) (by decide +kernel) rfl
theorem kw_472 : Cond.fieldLink "SignalTable$Game" 46 "SignalTable$Game" "winners" "[I" ∈ lwg := wu_mem (i := 472) (by decide +kernel) rfl
theorem kw_520 : Cond.methodLink "SignalTable$Open" 3 ⟨"java/lang/Object", "<init>", "()V"⟩ ∈ lwg := wu_mem (i := 520) (by decide +kernel) rfl
theorem kw_521 : Cond.fieldLink "SignalTable$Open" 31 "SignalTable$Open" "laws" "LSignalTable$Laws;" ∈ lwg := wu_mem (i := 521) (by decide +kernel) rfl
theorem kw_522 : Cond.fieldLink "SignalTable$Open" 40 "SignalTable$Open" "suitCards" "[I" ∈ lwg := wu_mem (i := 522) (by decide +kernel) rfl
theorem kw_523 : Cond.fieldLink "SignalTable$Open" 44 "SignalTable$Open" "suitOf" "[I" ∈ lwg := wu_mem (i := 523) (by decide +kernel) rfl
theorem kw_524 : Cond.fieldLink "SignalTable$Open" 9 "SignalTable$Open" "hand" "[I" ∈ lwg := wu_mem (i := 524) (by decide +kernel) rfl
theorem kw_531 : Cond.fieldLink "SignalTable$Open" 15 "SignalTable$Open" "memory" "[I" ∈ lwg := wu_mem (i := 531) (by decide +kernel) rfl
theorem kw_533 : Cond.fieldLink "SignalTable$Open" 18 "SignalTable$Open" "age" "I" ∈ lwg := wu_mem (i := 533) (by decide +kernel) rfl
theorem kw_534 : Cond.fieldLink "SignalTable$Open" 22 "SignalTable$Open" "memoryDeal" "[I" ∈ lwg := wu_mem (i := 534) (by decide +kernel) rfl
theorem kw_535 : Cond.fieldLink "SignalTable$Open" 25 "SignalTable$Open" "line" "[I" ∈ lwg := wu_mem (i := 535) (by decide +kernel) rfl
theorem kw_536 : Cond.fieldLink "SignalTable$Open" 28 "SignalTable$Open" "lineStamp" "I" ∈ lwg := wu_mem (i := 536) (by decide +kernel) rfl
theorem kw_571 : Cond.methodLink "SignalTable$Deals" 3 ⟨"java/lang/Object", "<init>", "()V"⟩ ∈ lwg := wu_mem (i := 571) (by decide +kernel) rfl
theorem kw_572 : Cond.classLink "SignalTable$Deals" 11 "[[I" ∈ lwg := wu_mem (i := 572) (by decide +kernel) rfl
theorem kw_574 : Cond.classLink "SignalTable$Deals" 20 "[[J" ∈ lwg := wu_mem (i := 574) (by decide +kernel) rfl
theorem kw_576 : Cond.fieldLink "SignalTable$Deals" 31 "SignalTable$Deals" "laws" "LSignalTable$Laws;" ∈ lwg := wu_mem (i := 576) (by decide +kernel) rfl
theorem kw_577 : Cond.fieldLink "SignalTable$Deals" 35 "SignalTable$Deals" "judge" "LSignalTable$Judge;" ∈ lwg := wu_mem (i := 577) (by decide +kernel) rfl
theorem kw_578 : Cond.fieldLink "SignalTable$Deals" 13 "SignalTable$Deals" "listed" "[[I" ∈ lwg := wu_mem (i := 578) (by decide +kernel) rfl
theorem kw_579 : Cond.fieldLink "SignalTable$Deals" 16 "SignalTable$Deals" "size" "[I" ∈ lwg := wu_mem (i := 579) (by decide +kernel) rfl
theorem kw_580 : Cond.fieldLink "SignalTable$Deals" 22 "SignalTable$Deals" "fitting" "[[J" ∈ lwg := wu_mem (i := 580) (by decide +kernel) rfl
theorem kw_581 : Cond.fieldLink "SignalTable$Deals" 25 "SignalTable$Deals" "played" "[I" ∈ lwg := wu_mem (i := 581) (by decide +kernel) rfl
theorem kw_582 : Cond.fieldLink "SignalTable$Deals" 28 "SignalTable$Deals" "hand" "[I" ∈ lwg := wu_mem (i := 582) (by decide +kernel) rfl
theorem kw_622 : Cond.methodLink "SignalTable$Weigher" 3 ⟨"java/lang/Object", "<init>", "()V"⟩ ∈ lwg := wu_mem (i := 622) (by decide +kernel) rfl
theorem kw_623 : Cond.fieldLink "SignalTable$Weigher" 15 "SignalTable$Weigher" "deals" "LSignalTable$Deals;" ∈ lwg := wu_mem (i := 623) (by decide +kernel) rfl
theorem kw_624 : Cond.fieldLink "SignalTable$Weigher" 19 "SignalTable$Weigher" "solver" "LSignalTable$Open;" ∈ lwg := wu_mem (i := 624) (by decide +kernel) rfl
theorem kw_625 : Cond.fieldLink "SignalTable$Weigher" 11 "SignalTable$Weigher" "tally" "[I" ∈ lwg := wu_mem (i := 625) (by decide +kernel) rfl
theorem kw_650 : Cond.methodLink "SignalTable$Gains" 3 ⟨"java/lang/Object", "<init>", "()V"⟩ ∈ lwg := wu_mem (i := 650) (by decide +kernel) rfl
theorem kw_651 : Cond.fieldLink "SignalTable$Gains" 15 "SignalTable$Gains" "trial" "LSignalTable$Game;" ∈ lwg := wu_mem (i := 651) (by decide +kernel) rfl
theorem kw_652 : Cond.fieldLink "SignalTable$Gains" 19 "SignalTable$Gains" "weigher" "LSignalTable$Weigher;" ∈ lwg := wu_mem (i := 652) (by decide +kernel) rfl
theorem kw_653 : Cond.fieldLink "SignalTable$Gains" 11 "SignalTable$Gains" "memory" "[I" ∈ lwg := wu_mem (i := 653) (by decide +kernel) rfl
theorem kw_666 : Cond.methodLink "SignalTable$Books" 3 ⟨"java/lang/Object", "<init>", "()V"⟩ ∈ lwg := wu_mem (i := 666) (by decide +kernel) rfl
theorem kw_667 : Cond.fieldLink "SignalTable$Books" 9 "SignalTable$Books" "applied" "[I" ∈ lwg := wu_mem (i := 667) (by decide +kernel) rfl
theorem kw_668 : Cond.fieldLink "SignalTable$Books" 15 "SignalTable$Books" "lied" "[I" ∈ lwg := wu_mem (i := 668) (by decide +kernel) rfl
theorem kw_683 : Cond.methodLink "SignalTable$Openings" 3 ⟨"java/lang/Object", "<init>", "()V"⟩ ∈ lwg := wu_mem (i := 683) (by decide +kernel) rfl
theorem kw_685 : Cond.fieldLink "SignalTable$Openings" 15 "SignalTable$Openings" "judge" "LSignalTable$Judge;" ∈ lwg := wu_mem (i := 685) (by decide +kernel) rfl
theorem dX0_init_0 : decode cX0_init 0 = .ok (.aload_n 0, 1) := by decide +kernel
theorem dX0_init_1 : decode cX0_init 1 = .ok (.invokespecial 3, 3) := by decide +kernel
theorem dX0_init_4 : decode cX0_init 4 = .ok (.aload_n 0, 1) := by decide +kernel
theorem dX0_init_5 : decode cX0_init 5 = .ok (.bipush 48, 2) := by decide +kernel
theorem dX0_init_7 : decode cX0_init 7 = .ok (.newarray .int, 2) := by decide +kernel
theorem dX0_init_9 : decode cX0_init 9 = .ok (.putfield 9, 3) := by decide +kernel
theorem dX0_init_12 : decode cX0_init 12 = .ok (.aload_n 0, 1) := by decide +kernel
theorem dX0_init_13 : decode cX0_init 13 = .ok (.bipush 48, 2) := by decide +kernel
theorem dX0_init_15 : decode cX0_init 15 = .ok (.newarray .int, 2) := by decide +kernel
theorem dX0_init_17 : decode cX0_init 17 = .ok (.putfield 15, 3) := by decide +kernel
theorem dX0_init_20 : decode cX0_init 20 = .ok (.return_, 1) := by decide +kernel
theorem dX1_init_0 : decode cX1_init 0 = .ok (.aload_n 0, 1) := by decide +kernel
theorem dX1_init_1 : decode cX1_init 1 = .ok (.invokespecial 3, 3) := by decide +kernel
theorem dX1_init_4 : decode cX1_init 4 = .ok (.aload_n 0, 1) := by decide +kernel
theorem dX1_init_5 : decode cX1_init 5 = .ok (.iconst 4, 1) := by decide +kernel
theorem dX1_init_6 : decode cX1_init 6 = .ok (.sipush 495, 3) := by decide +kernel
theorem dX1_init_9 : decode cX1_init 9 = .ok (.multianewarray 11 2, 4) := by decide +kernel
theorem dX1_init_13 : decode cX1_init 13 = .ok (.putfield 13, 3) := by decide +kernel
theorem dX1_init_16 : decode cX1_init 16 = .ok (.aload_n 0, 1) := by decide +kernel
theorem dX1_init_17 : decode cX1_init 17 = .ok (.iconst 4, 1) := by decide +kernel
theorem dX1_init_18 : decode cX1_init 18 = .ok (.newarray .int, 2) := by decide +kernel
theorem dX1_init_20 : decode cX1_init 20 = .ok (.putfield 16, 3) := by decide +kernel
theorem dX1_init_23 : decode cX1_init 23 = .ok (.aload_n 0, 1) := by decide +kernel
theorem dX1_init_24 : decode cX1_init 24 = .ok (.iconst 4, 1) := by decide +kernel
theorem dX1_init_25 : decode cX1_init 25 = .ok (.sipush 1024, 3) := by decide +kernel
theorem dX1_init_28 : decode cX1_init 28 = .ok (.multianewarray 20 2, 4) := by decide +kernel
theorem dX1_init_32 : decode cX1_init 32 = .ok (.putfield 22, 3) := by decide +kernel
theorem dX1_init_35 : decode cX1_init 35 = .ok (.aload_n 0, 1) := by decide +kernel
theorem dX1_init_36 : decode cX1_init 36 = .ok (.iconst 4, 1) := by decide +kernel
theorem dX1_init_37 : decode cX1_init 37 = .ok (.newarray .int, 2) := by decide +kernel
theorem dX1_init_39 : decode cX1_init 39 = .ok (.putfield 25, 3) := by decide +kernel
theorem dX1_init_42 : decode cX1_init 42 = .ok (.aload_n 0, 1) := by decide +kernel
theorem dX1_init_43 : decode cX1_init 43 = .ok (.iconst 4, 1) := by decide +kernel
theorem dX1_init_44 : decode cX1_init 44 = .ok (.newarray .int, 2) := by decide +kernel
theorem dX1_init_46 : decode cX1_init 46 = .ok (.putfield 28, 3) := by decide +kernel
theorem dX1_init_49 : decode cX1_init 49 = .ok (.aload_n 0, 1) := by decide +kernel
theorem dX1_init_50 : decode cX1_init 50 = .ok (.aload_n 1, 1) := by decide +kernel
theorem dX1_init_51 : decode cX1_init 51 = .ok (.putfield 31, 3) := by decide +kernel
theorem dX1_init_54 : decode cX1_init 54 = .ok (.aload_n 0, 1) := by decide +kernel
theorem dX1_init_55 : decode cX1_init 55 = .ok (.aload_n 2, 1) := by decide +kernel
theorem dX1_init_56 : decode cX1_init 56 = .ok (.putfield 35, 3) := by decide +kernel
theorem dX1_init_59 : decode cX1_init 59 = .ok (.return_, 1) := by decide +kernel
theorem dX10_init_0 : decode cX10_init 0 = .ok (.aload_n 0, 1) := by decide +kernel
theorem dX10_init_1 : decode cX10_init 1 = .ok (.invokespecial 3, 3) := by decide +kernel
theorem dX10_init_4 : decode cX10_init 4 = .ok (.aload_n 0, 1) := by decide +kernel
theorem dX10_init_5 : decode cX10_init 5 = .ok (.bipush 80, 2) := by decide +kernel
theorem dX10_init_7 : decode cX10_init 7 = .ok (.newarray .int, 2) := by decide +kernel
theorem dX10_init_9 : decode cX10_init 9 = .ok (.putfield 11, 3) := by decide +kernel
theorem dX10_init_12 : decode cX10_init 12 = .ok (.aload_n 0, 1) := by decide +kernel
theorem dX10_init_13 : decode cX10_init 13 = .ok (.aload_n 1, 1) := by decide +kernel
theorem dX10_init_14 : decode cX10_init 14 = .ok (.putfield 15, 3) := by decide +kernel
theorem dX10_init_17 : decode cX10_init 17 = .ok (.aload_n 0, 1) := by decide +kernel
theorem dX10_init_18 : decode cX10_init 18 = .ok (.aload_n 2, 1) := by decide +kernel
theorem dX10_init_19 : decode cX10_init 19 = .ok (.putfield 19, 3) := by decide +kernel
theorem dX10_init_22 : decode cX10_init 22 = .ok (.return_, 1) := by decide +kernel
theorem dX2_init_0 : decode cX2_init 0 = .ok (.aload_n 0, 1) := by decide +kernel
theorem dX2_init_1 : decode cX2_init 1 = .ok (.invokespecial 3, 3) := by decide +kernel
theorem dX2_init_4 : decode cX2_init 4 = .ok (.aload_n 0, 1) := by decide +kernel
theorem dX2_init_5 : decode cX2_init 5 = .ok (.sipush 1024, 3) := by decide +kernel
theorem dX2_init_8 : decode cX2_init 8 = .ok (.newarray .int, 2) := by decide +kernel
theorem dX2_init_10 : decode cX2_init 10 = .ok (.putfield 11, 3) := by decide +kernel
theorem dX2_init_13 : decode cX2_init 13 = .ok (.aload_n 0, 1) := by decide +kernel
theorem dX2_init_14 : decode cX2_init 14 = .ok (.aload_n 1, 1) := by decide +kernel
theorem dX2_init_15 : decode cX2_init 15 = .ok (.putfield 15, 3) := by decide +kernel
theorem dX2_init_18 : decode cX2_init 18 = .ok (.aload_n 0, 1) := by decide +kernel
theorem dX2_init_19 : decode cX2_init 19 = .ok (.aload_n 2, 1) := by decide +kernel
theorem dX2_init_20 : decode cX2_init 20 = .ok (.putfield 19, 3) := by decide +kernel
theorem dX2_init_23 : decode cX2_init 23 = .ok (.return_, 1) := by decide +kernel
theorem dX3_init_0 : decode cX3_init 0 = .ok (.aload_n 0, 1) := by decide +kernel
theorem dX3_init_1 : decode cX3_init 1 = .ok (.invokespecial 3, 3) := by decide +kernel
theorem dX3_init_4 : decode cX3_init 4 = .ok (.aload_n 0, 1) := by decide +kernel
theorem dX3_init_5 : decode cX3_init 5 = .ok (.iconst 4, 1) := by decide +kernel
theorem dX3_init_6 : decode cX3_init 6 = .ok (.newarray .int, 2) := by decide +kernel
theorem dX3_init_8 : decode cX3_init 8 = .ok (.putfield 9, 3) := by decide +kernel
theorem dX3_init_11 : decode cX3_init 11 = .ok (.aload_n 0, 1) := by decide +kernel
theorem dX3_init_12 : decode cX3_init 12 = .ok (.iconst 4, 1) := by decide +kernel
theorem dX3_init_13 : decode cX3_init 13 = .ok (.newarray .int, 2) := by decide +kernel
theorem dX3_init_15 : decode cX3_init 15 = .ok (.putfield 15, 3) := by decide +kernel
theorem dX3_init_18 : decode cX3_init 18 = .ok (.aload_n 0, 1) := by decide +kernel
theorem dX3_init_19 : decode cX3_init 19 = .ok (.bipush (-2), 2) := by decide +kernel
theorem dX3_init_21 : decode cX3_init 21 = .ok (.putfield 18, 3) := by decide +kernel
theorem dX3_init_24 : decode cX3_init 24 = .ok (.aload_n 0, 1) := by decide +kernel
theorem dX3_init_25 : decode cX3_init 25 = .ok (.bipush 16, 2) := by decide +kernel
theorem dX3_init_27 : decode cX3_init 27 = .ok (.newarray .int, 2) := by decide +kernel
theorem dX3_init_29 : decode cX3_init 29 = .ok (.putfield 22, 3) := by decide +kernel
theorem dX3_init_32 : decode cX3_init 32 = .ok (.aload_n 0, 1) := by decide +kernel
theorem dX3_init_33 : decode cX3_init 33 = .ok (.bipush 16, 2) := by decide +kernel
theorem dX3_init_35 : decode cX3_init 35 = .ok (.newarray .int, 2) := by decide +kernel
theorem dX3_init_37 : decode cX3_init 37 = .ok (.putfield 25, 3) := by decide +kernel
theorem dX3_init_40 : decode cX3_init 40 = .ok (.aload_n 0, 1) := by decide +kernel
theorem dX3_init_41 : decode cX3_init 41 = .ok (.bipush 16, 2) := by decide +kernel
theorem dX3_init_43 : decode cX3_init 43 = .ok (.newarray .int, 2) := by decide +kernel
theorem dX3_init_45 : decode cX3_init 45 = .ok (.putfield 28, 3) := by decide +kernel
theorem dX3_init_48 : decode cX3_init 48 = .ok (.aload_n 0, 1) := by decide +kernel
theorem dX3_init_49 : decode cX3_init 49 = .ok (.bipush 16, 2) := by decide +kernel
theorem dX3_init_51 : decode cX3_init 51 = .ok (.newarray .int, 2) := by decide +kernel
theorem dX3_init_53 : decode cX3_init 53 = .ok (.putfield 31, 3) := by decide +kernel
theorem dX3_init_56 : decode cX3_init 56 = .ok (.aload_n 0, 1) := by decide +kernel
theorem dX3_init_57 : decode cX3_init 57 = .ok (.bipush 16, 2) := by decide +kernel
theorem dX3_init_59 : decode cX3_init 59 = .ok (.newarray .int, 2) := by decide +kernel
theorem dX3_init_61 : decode cX3_init 61 = .ok (.putfield 34, 3) := by decide +kernel
theorem dX3_init_64 : decode cX3_init 64 = .ok (.aload_n 0, 1) := by decide +kernel
theorem dX3_init_65 : decode cX3_init 65 = .ok (.bipush 16, 2) := by decide +kernel
theorem dX3_init_67 : decode cX3_init 67 = .ok (.newarray .int, 2) := by decide +kernel
theorem dX3_init_69 : decode cX3_init 69 = .ok (.putfield 37, 3) := by decide +kernel
theorem dX3_init_72 : decode cX3_init 72 = .ok (.aload_n 0, 1) := by decide +kernel
theorem dX3_init_73 : decode cX3_init 73 = .ok (.bipush 16, 2) := by decide +kernel
theorem dX3_init_75 : decode cX3_init 75 = .ok (.newarray .int, 2) := by decide +kernel
theorem dX3_init_77 : decode cX3_init 77 = .ok (.putfield 40, 3) := by decide +kernel
theorem dX3_init_80 : decode cX3_init 80 = .ok (.aload_n 0, 1) := by decide +kernel
theorem dX3_init_81 : decode cX3_init 81 = .ok (.bipush 16, 2) := by decide +kernel
theorem dX3_init_83 : decode cX3_init 83 = .ok (.newarray .int, 2) := by decide +kernel
theorem dX3_init_85 : decode cX3_init 85 = .ok (.putfield 43, 3) := by decide +kernel
theorem dX3_init_88 : decode cX3_init 88 = .ok (.aload_n 0, 1) := by decide +kernel
theorem dX3_init_89 : decode cX3_init 89 = .ok (.iconst 4, 1) := by decide +kernel
theorem dX3_init_90 : decode cX3_init 90 = .ok (.newarray .int, 2) := by decide +kernel
theorem dX3_init_92 : decode cX3_init 92 = .ok (.putfield 46, 3) := by decide +kernel
theorem dX3_init_95 : decode cX3_init 95 = .ok (.aload_n 0, 1) := by decide +kernel
theorem dX3_init_96 : decode cX3_init 96 = .ok (.aload_n 1, 1) := by decide +kernel
theorem dX3_init_97 : decode cX3_init 97 = .ok (.putfield 49, 3) := by decide +kernel
theorem dX3_init_100 : decode cX3_init 100 = .ok (.aload_n 0, 1) := by decide +kernel
theorem dX3_init_101 : decode cX3_init 101 = .ok (.aload_n 2, 1) := by decide +kernel
theorem dX3_init_102 : decode cX3_init 102 = .ok (.putfield 53, 3) := by decide +kernel
theorem dX3_init_105 : decode cX3_init 105 = .ok (.return_, 1) := by decide +kernel
theorem dX4_init_0 : decode cX4_init 0 = .ok (.aload_n 0, 1) := by decide +kernel
theorem dX4_init_1 : decode cX4_init 1 = .ok (.invokespecial 1, 3) := by decide +kernel
theorem dX4_init_4 : decode cX4_init 4 = .ok (.aload_n 0, 1) := by decide +kernel
theorem dX4_init_5 : decode cX4_init 5 = .ok (.bipush 14, 2) := by decide +kernel
theorem dX4_init_7 : decode cX4_init 7 = .ok (.newarray .int, 2) := by decide +kernel
theorem dX4_init_9 : decode cX4_init 9 = .ok (.putfield 9, 3) := by decide +kernel
theorem dX4_init_12 : decode cX4_init 12 = .ok (.aload_n 0, 1) := by decide +kernel
theorem dX4_init_13 : decode cX4_init 13 = .ok (.bipush 64, 2) := by decide +kernel
theorem dX4_init_15 : decode cX4_init 15 = .ok (.newarray .int, 2) := by decide +kernel
theorem dX4_init_17 : decode cX4_init 17 = .ok (.putfield 13, 3) := by decide +kernel
theorem dX4_init_20 : decode cX4_init 20 = .ok (.aload_n 0, 1) := by decide +kernel
theorem dX4_init_21 : decode cX4_init 21 = .ok (.aload_n 1, 1) := by decide +kernel
theorem dX4_init_22 : decode cX4_init 22 = .ok (.putfield 16, 3) := by decide +kernel
theorem dX4_init_25 : decode cX4_init 25 = .ok (.return_, 1) := by decide +kernel
theorem dX5_init_0 : decode cX5_init 0 = .ok (.aload_n 0, 1) := by decide +kernel
theorem dX5_init_1 : decode cX5_init 1 = .ok (.invokespecial 3, 3) := by decide +kernel
theorem dX5_init_4 : decode cX5_init 4 = .ok (.aload_n 0, 1) := by decide +kernel
theorem dX5_init_5 : decode cX5_init 5 = .ok (.bipush 6, 2) := by decide +kernel
theorem dX5_init_7 : decode cX5_init 7 = .ok (.newarray .int, 2) := by decide +kernel
theorem dX5_init_9 : decode cX5_init 9 = .ok (.putfield 9, 3) := by decide +kernel
theorem dX5_init_12 : decode cX5_init 12 = .ok (.aload_n 0, 1) := by decide +kernel
theorem dX5_init_13 : decode cX5_init 13 = .ok (.bipush 6, 2) := by decide +kernel
theorem dX5_init_15 : decode cX5_init 15 = .ok (.newarray .int, 2) := by decide +kernel
theorem dX5_init_17 : decode cX5_init 17 = .ok (.putfield 15, 3) := by decide +kernel
theorem dX5_init_20 : decode cX5_init 20 = .ok (.aload_n 0, 1) := by decide +kernel
theorem dX5_init_21 : decode cX5_init 21 = .ok (.bipush 12, 2) := by decide +kernel
theorem dX5_init_23 : decode cX5_init 23 = .ok (.newarray .int, 2) := by decide +kernel
theorem dX5_init_25 : decode cX5_init 25 = .ok (.putfield 18, 3) := by decide +kernel
theorem dX5_init_28 : decode cX5_init 28 = .ok (.aload_n 0, 1) := by decide +kernel
theorem dX5_init_29 : decode cX5_init 29 = .ok (.bipush 12, 2) := by decide +kernel
theorem dX5_init_31 : decode cX5_init 31 = .ok (.newarray .int, 2) := by decide +kernel
theorem dX5_init_33 : decode cX5_init 33 = .ok (.putfield 21, 3) := by decide +kernel
theorem dX5_init_36 : decode cX5_init 36 = .ok (.aload_n 0, 1) := by decide +kernel
theorem dX5_init_37 : decode cX5_init 37 = .ok (.sipush 400, 3) := by decide +kernel
theorem dX5_init_40 : decode cX5_init 40 = .ok (.newarray .int, 2) := by decide +kernel
theorem dX5_init_42 : decode cX5_init 42 = .ok (.putfield 26, 3) := by decide +kernel
theorem dX5_init_45 : decode cX5_init 45 = .ok (.aload_n 0, 1) := by decide +kernel
theorem dX5_init_46 : decode cX5_init 46 = .ok (.iconst 4, 1) := by decide +kernel
theorem dX5_init_47 : decode cX5_init 47 = .ok (.newarray .int, 2) := by decide +kernel
theorem dX5_init_49 : decode cX5_init 49 = .ok (.putfield 29, 3) := by decide +kernel
theorem dX5_init_52 : decode cX5_init 52 = .ok (.aload_n 0, 1) := by decide +kernel
theorem dX5_init_53 : decode cX5_init 53 = .ok (.bipush 16, 2) := by decide +kernel
theorem dX5_init_55 : decode cX5_init 55 = .ok (.newarray .int, 2) := by decide +kernel
theorem dX5_init_57 : decode cX5_init 57 = .ok (.putfield 32, 3) := by decide +kernel
theorem dX5_init_60 : decode cX5_init 60 = .ok (.aload_n 0, 1) := by decide +kernel
theorem dX5_init_61 : decode cX5_init 61 = .ok (.sipush 1820, 3) := by decide +kernel
theorem dX5_init_64 : decode cX5_init 64 = .ok (.newarray .int, 2) := by decide +kernel
theorem dX5_init_66 : decode cX5_init 66 = .ok (.putfield 35, 3) := by decide +kernel
theorem dX5_init_69 : decode cX5_init 69 = .ok (.return_, 1) := by decide +kernel
theorem dX6_init_0 : decode cX6_init 0 = .ok (.aload_n 0, 1) := by decide +kernel
theorem dX6_init_1 : decode cX6_init 1 = .ok (.invokespecial 3, 3) := by decide +kernel
theorem dX6_init_4 : decode cX6_init 4 = .ok (.aload_n 0, 1) := by decide +kernel
theorem dX6_init_5 : decode cX6_init 5 = .ok (.iconst 4, 1) := by decide +kernel
theorem dX6_init_6 : decode cX6_init 6 = .ok (.newarray .int, 2) := by decide +kernel
theorem dX6_init_8 : decode cX6_init 8 = .ok (.putfield 9, 3) := by decide +kernel
theorem dX6_init_11 : decode cX6_init 11 = .ok (.aload_n 0, 1) := by decide +kernel
theorem dX6_init_12 : decode cX6_init 12 = .ok (.sipush 2048, 3) := by decide +kernel
theorem dX6_init_15 : decode cX6_init 15 = .ok (.newarray .int, 2) := by decide +kernel
theorem dX6_init_17 : decode cX6_init 17 = .ok (.putfield 15, 3) := by decide +kernel
theorem dX6_init_20 : decode cX6_init 20 = .ok (.aload_n 0, 1) := by decide +kernel
theorem dX6_init_21 : decode cX6_init 21 = .ok (.iconst 1, 1) := by decide +kernel
theorem dX6_init_22 : decode cX6_init 22 = .ok (.putfield 18, 3) := by decide +kernel
theorem dX6_init_25 : decode cX6_init 25 = .ok (.aload_n 0, 1) := by decide +kernel
theorem dX6_init_26 : decode cX6_init 26 = .ok (.iconst 4, 1) := by decide +kernel
theorem dX6_init_27 : decode cX6_init 27 = .ok (.newarray .int, 2) := by decide +kernel
theorem dX6_init_29 : decode cX6_init 29 = .ok (.putfield 22, 3) := by decide +kernel
theorem dX6_init_32 : decode cX6_init 32 = .ok (.aload_n 0, 1) := by decide +kernel
theorem dX6_init_33 : decode cX6_init 33 = .ok (.bipush 16, 2) := by decide +kernel
theorem dX6_init_35 : decode cX6_init 35 = .ok (.newarray .int, 2) := by decide +kernel
theorem dX6_init_37 : decode cX6_init 37 = .ok (.putfield 25, 3) := by decide +kernel
theorem dX6_init_40 : decode cX6_init 40 = .ok (.aload_n 0, 1) := by decide +kernel
theorem dX6_init_41 : decode cX6_init 41 = .ok (.iconst (-1), 1) := by decide +kernel
theorem dX6_init_42 : decode cX6_init 42 = .ok (.putfield 28, 3) := by decide +kernel
theorem dX6_init_45 : decode cX6_init 45 = .ok (.aload_n 0, 1) := by decide +kernel
theorem dX6_init_46 : decode cX6_init 46 = .ok (.aload_n 1, 1) := by decide +kernel
theorem dX6_init_47 : decode cX6_init 47 = .ok (.putfield 31, 3) := by decide +kernel
theorem dX6_init_50 : decode cX6_init 50 = .ok (.aload_n 0, 1) := by decide +kernel
theorem dX6_init_51 : decode cX6_init 51 = .ok (.aload_n 1, 1) := by decide +kernel
theorem dX6_init_52 : decode cX6_init 52 = .ok (.getfield 35, 3) := by decide +kernel
theorem dX6_init_55 : decode cX6_init 55 = .ok (.putfield 40, 3) := by decide +kernel
theorem dX6_init_58 : decode cX6_init 58 = .ok (.aload_n 0, 1) := by decide +kernel
theorem dX6_init_59 : decode cX6_init 59 = .ok (.aload_n 1, 1) := by decide +kernel
theorem dX6_init_60 : decode cX6_init 60 = .ok (.getfield 41, 3) := by decide +kernel
theorem dX6_init_63 : decode cX6_init 63 = .ok (.putfield 44, 3) := by decide +kernel
theorem dX6_init_66 : decode cX6_init 66 = .ok (.return_, 1) := by decide +kernel
theorem dX7_init_0 : decode cX7_init 0 = .ok (.aload_n 0, 1) := by decide +kernel
theorem dX7_init_1 : decode cX7_init 1 = .ok (.invokespecial 3, 3) := by decide +kernel
theorem dX7_init_4 : decode cX7_init 4 = .ok (.aload_n 0, 1) := by decide +kernel
theorem dX7_init_5 : decode cX7_init 5 = .ok (.aload_n 1, 1) := by decide +kernel
theorem dX7_init_6 : decode cX7_init 6 = .ok (.putfield 9, 3) := by decide +kernel
theorem dX7_init_9 : decode cX7_init 9 = .ok (.aload_n 0, 1) := by decide +kernel
theorem dX7_init_10 : decode cX7_init 10 = .ok (.aload_n 2, 1) := by decide +kernel
theorem dX7_init_11 : decode cX7_init 11 = .ok (.putfield 15, 3) := by decide +kernel
theorem dX7_init_14 : decode cX7_init 14 = .ok (.return_, 1) := by decide +kernel
end
section
set_option maxHeartbeats 4000000 in
set_option maxRecDepth 100000 in
theorem wX5_init {l : Launch} {D : va_G} {sz : Nat} (h0 : Nat) : Wv l yX5_init cX5_init 1 1 8 2276 D [(h0, .inr (5, [.int 0, .int 0, .int 0, .int 0, .null, .null, .null, .null, .null, .int 0, .int 0, .int 0, .null, .null, .null, .int 0]))] [] [.ref h0] sz (fun _ => True) (fun q k g gl => [(h0, .inr (5, [.int 0, .int 0, .int 0, .int 0, .ref (q 0), .ref (q 1), .ref (q 2), .ref (q 3), .ref (q 4), .int 0, .int 0, .int 0, .ref (q 5), .ref (q 6), .ref (q 7), .int 0])), ((q 5), .inl ((k 5), 4, .inl (fun _ => 0))), ((q 6), .inl ((k 6), 16, .inl (fun _ => 0))), ((q 7), .inl ((k 7), 1820, .inl (fun _ => 0)))]) (fun k => [((k 5), .int), ((k 6), .int), ((k 7), .int)]) := by
  refine Wv.of (by decide) (Nat.le_of_ble_eq_true rfl) ?_
  intro p e s m below meth c ls A hx hb hr hml hown hts hlocks hin hP hK hD hA hS hE hAe hl
  have hown : s.vm.findClass "SignalTable$Laws" = some m.cls := hown
  have hin : meth.name = "<init>" := hin
  skip
  have hl : lv_has ls 1 [(0, .ref h0)] := hl
  refine lv_aload_n hx hb dX5_init_0 rfl (lv_at hl 0 rfl) ?_
  refine W.objInit hx hb hown (hts _ kw_187) (hts _ kw_180) (hts _ kw_181) rfl (by rw [hml]; exact hl.1) rfl dX5_init_1 (by decide) (Nat.le_of_ble_eq_true rfl) ?_
  refine lv_aload_n hx hb dX5_init_4 rfl (lv_at hl 0 rfl) ?_
  refine lv_bipush (v := 6) hx hb dX5_init_5 (by decide) ?_
  refine va_newa (atype := .int) (a0 := (6, .inl (fun _ => 0))) (ty := .int) hx hb (hts _ kw_280) rfl hK hP hD hS hA (fun _ => rfl) (by decide) (by decide) (by decide) (by decide) (by decide) dX5_init_7 (fun a7_1 k7_1 H hK hP hD hS => ?_)
  have hP : va_P D vwCl [(h0, .inr (5, [.int 0, .int 0, .int 0, .int 0, .null, .null, .null, .null, .null, .int 0, .int 0, .int 0, .null, .null, .null, .int 0])), (a7_1, .inl (k7_1, 6, .inl (fun _ => 0)))] H := hP
  have hD : va_D A [(h0, .inr (5, [.int 0, .int 0, .int 0, .int 0, .null, .null, .null, .null, .null, .int 0, .int 0, .int 0, .null, .null, .null, .int 0])), (a7_1, .inl (k7_1, 6, .inl (fun _ => 0)))] := hD
  have hK : va_K D vwCl [(k7_1, .int)] s := hK
  refine W.cs (cells' := 1) (slots' := 6) rfl rfl ?_
  refine va_putF (D := D) (ci := 5) (v := .ref a7_1) (ty := .array .int) (C := RX5) (T := TX5) (N := 16) hx hb hts inX5 tyX5 tyX5_ok nmX5 hown hK hP hD hS 0 rfl rfl 4 (by decide) (hts _ kw_205) (fun _ h9 => h9) rfl hin rfl (by decide +kernel) rfl rfl (Nat.le_of_ble_eq_true rfl) dX5_init_9 (fun H locs hP hD hS => ?_)
  have hP : va_P D vwCl [(h0, .inr (5, [.int 0, .int 0, .int 0, .int 0, .ref a7_1, .null, .null, .null, .null, .int 0, .int 0, .int 0, .null, .null, .null, .int 0])), (a7_1, .inl (k7_1, 6, .inl (fun _ => 0)))] H := hP
  have hD : va_D A [(h0, .inr (5, [.int 0, .int 0, .int 0, .int 0, .ref a7_1, .null, .null, .null, .null, .int 0, .int 0, .int 0, .null, .null, .null, .int 0])), (a7_1, .inl (k7_1, 6, .inl (fun _ => 0)))] := hD
  refine lv_aload_n hx hb dX5_init_12 rfl (lv_at hl 0 rfl) ?_
  refine lv_bipush (v := 6) hx hb dX5_init_13 (by decide) ?_
  refine va_newa (atype := .int) (a0 := (6, .inl (fun _ => 0))) (ty := .int) hx hb (hts _ kw_280) rfl hK hP hD hS hA (fun _ => rfl) (by decide) (by decide) (by decide) (by decide) (by decide) dX5_init_15 (fun a15_2 k15_2 H hK hP hD hS => ?_)
  have hP : va_P D vwCl [(h0, .inr (5, [.int 0, .int 0, .int 0, .int 0, .ref a7_1, .null, .null, .null, .null, .int 0, .int 0, .int 0, .null, .null, .null, .int 0])), (a7_1, .inl (k7_1, 6, .inl (fun _ => 0))), (a15_2, .inl (k15_2, 6, .inl (fun _ => 0)))] H := hP
  have hD : va_D A [(h0, .inr (5, [.int 0, .int 0, .int 0, .int 0, .ref a7_1, .null, .null, .null, .null, .int 0, .int 0, .int 0, .null, .null, .null, .int 0])), (a7_1, .inl (k7_1, 6, .inl (fun _ => 0))), (a15_2, .inl (k15_2, 6, .inl (fun _ => 0)))] := hD
  have hK : va_K D vwCl [(k7_1, .int), (k15_2, .int)] s := hK
  refine W.cs (cells' := 2) (slots' := 12) rfl rfl ?_
  refine va_putF (D := D) (ci := 5) (v := .ref a15_2) (ty := .array .int) (C := RX5) (T := TX5) (N := 16) hx hb hts inX5 tyX5 tyX5_ok nmX5 hown hK hP hD hS 0 rfl rfl 5 (by decide) (hts _ kw_208) (fun _ h9 => h9) rfl hin rfl (by decide +kernel) rfl rfl (Nat.le_of_ble_eq_true rfl) dX5_init_17 (fun H locs hP hD hS => ?_)
  have hP : va_P D vwCl [(h0, .inr (5, [.int 0, .int 0, .int 0, .int 0, .ref a7_1, .ref a15_2, .null, .null, .null, .int 0, .int 0, .int 0, .null, .null, .null, .int 0])), (a7_1, .inl (k7_1, 6, .inl (fun _ => 0))), (a15_2, .inl (k15_2, 6, .inl (fun _ => 0)))] H := hP
  have hD : va_D A [(h0, .inr (5, [.int 0, .int 0, .int 0, .int 0, .ref a7_1, .ref a15_2, .null, .null, .null, .int 0, .int 0, .int 0, .null, .null, .null, .int 0])), (a7_1, .inl (k7_1, 6, .inl (fun _ => 0))), (a15_2, .inl (k15_2, 6, .inl (fun _ => 0)))] := hD
  refine lv_aload_n hx hb dX5_init_20 rfl (lv_at hl 0 rfl) ?_
  refine lv_bipush (v := 12) hx hb dX5_init_21 (by decide) ?_
  refine va_newa (atype := .int) (a0 := (12, .inl (fun _ => 0))) (ty := .int) hx hb (hts _ kw_280) rfl hK hP hD hS hA (fun _ => rfl) (by decide) (by decide) (by decide) (by decide) (by decide) dX5_init_23 (fun a23_3 k23_3 H hK hP hD hS => ?_)
  have hP : va_P D vwCl [(h0, .inr (5, [.int 0, .int 0, .int 0, .int 0, .ref a7_1, .ref a15_2, .null, .null, .null, .int 0, .int 0, .int 0, .null, .null, .null, .int 0])), (a7_1, .inl (k7_1, 6, .inl (fun _ => 0))), (a15_2, .inl (k15_2, 6, .inl (fun _ => 0))), (a23_3, .inl (k23_3, 12, .inl (fun _ => 0)))] H := hP
  have hD : va_D A [(h0, .inr (5, [.int 0, .int 0, .int 0, .int 0, .ref a7_1, .ref a15_2, .null, .null, .null, .int 0, .int 0, .int 0, .null, .null, .null, .int 0])), (a7_1, .inl (k7_1, 6, .inl (fun _ => 0))), (a15_2, .inl (k15_2, 6, .inl (fun _ => 0))), (a23_3, .inl (k23_3, 12, .inl (fun _ => 0)))] := hD
  have hK : va_K D vwCl [(k7_1, .int), (k15_2, .int), (k23_3, .int)] s := hK
  refine W.cs (cells' := 3) (slots' := 24) rfl rfl ?_
  refine va_putF (D := D) (ci := 5) (v := .ref a23_3) (ty := .array .int) (C := RX5) (T := TX5) (N := 16) hx hb hts inX5 tyX5 tyX5_ok nmX5 hown hK hP hD hS 0 rfl rfl 6 (by decide) (hts _ kw_212) (fun _ h9 => h9) rfl hin rfl (by decide +kernel) rfl rfl (Nat.le_of_ble_eq_true rfl) dX5_init_25 (fun H locs hP hD hS => ?_)
  have hP : va_P D vwCl [(h0, .inr (5, [.int 0, .int 0, .int 0, .int 0, .ref a7_1, .ref a15_2, .ref a23_3, .null, .null, .int 0, .int 0, .int 0, .null, .null, .null, .int 0])), (a7_1, .inl (k7_1, 6, .inl (fun _ => 0))), (a15_2, .inl (k15_2, 6, .inl (fun _ => 0))), (a23_3, .inl (k23_3, 12, .inl (fun _ => 0)))] H := hP
  have hD : va_D A [(h0, .inr (5, [.int 0, .int 0, .int 0, .int 0, .ref a7_1, .ref a15_2, .ref a23_3, .null, .null, .int 0, .int 0, .int 0, .null, .null, .null, .int 0])), (a7_1, .inl (k7_1, 6, .inl (fun _ => 0))), (a15_2, .inl (k15_2, 6, .inl (fun _ => 0))), (a23_3, .inl (k23_3, 12, .inl (fun _ => 0)))] := hD
  refine lv_aload_n hx hb dX5_init_28 rfl (lv_at hl 0 rfl) ?_
  refine lv_bipush (v := 12) hx hb dX5_init_29 (by decide) ?_
  refine va_newa (atype := .int) (a0 := (12, .inl (fun _ => 0))) (ty := .int) hx hb (hts _ kw_280) rfl hK hP hD hS hA (fun _ => rfl) (by decide) (by decide) (by decide) (by decide) (by decide) dX5_init_31 (fun a31_4 k31_4 H hK hP hD hS => ?_)
  have hP : va_P D vwCl [(h0, .inr (5, [.int 0, .int 0, .int 0, .int 0, .ref a7_1, .ref a15_2, .ref a23_3, .null, .null, .int 0, .int 0, .int 0, .null, .null, .null, .int 0])), (a7_1, .inl (k7_1, 6, .inl (fun _ => 0))), (a15_2, .inl (k15_2, 6, .inl (fun _ => 0))), (a23_3, .inl (k23_3, 12, .inl (fun _ => 0))), (a31_4, .inl (k31_4, 12, .inl (fun _ => 0)))] H := hP
  have hD : va_D A [(h0, .inr (5, [.int 0, .int 0, .int 0, .int 0, .ref a7_1, .ref a15_2, .ref a23_3, .null, .null, .int 0, .int 0, .int 0, .null, .null, .null, .int 0])), (a7_1, .inl (k7_1, 6, .inl (fun _ => 0))), (a15_2, .inl (k15_2, 6, .inl (fun _ => 0))), (a23_3, .inl (k23_3, 12, .inl (fun _ => 0))), (a31_4, .inl (k31_4, 12, .inl (fun _ => 0)))] := hD
  have hK : va_K D vwCl [(k7_1, .int), (k15_2, .int), (k23_3, .int), (k31_4, .int)] s := hK
  refine W.cs (cells' := 4) (slots' := 36) rfl rfl ?_
  refine va_putF (D := D) (ci := 5) (v := .ref a31_4) (ty := .array .int) (C := RX5) (T := TX5) (N := 16) hx hb hts inX5 tyX5 tyX5_ok nmX5 hown hK hP hD hS 0 rfl rfl 7 (by decide) (hts _ kw_214) (fun _ h9 => h9) rfl hin rfl (by decide +kernel) rfl rfl (Nat.le_of_ble_eq_true rfl) dX5_init_33 (fun H locs hP hD hS => ?_)
  have hP : va_P D vwCl [(h0, .inr (5, [.int 0, .int 0, .int 0, .int 0, .ref a7_1, .ref a15_2, .ref a23_3, .ref a31_4, .null, .int 0, .int 0, .int 0, .null, .null, .null, .int 0])), (a7_1, .inl (k7_1, 6, .inl (fun _ => 0))), (a15_2, .inl (k15_2, 6, .inl (fun _ => 0))), (a23_3, .inl (k23_3, 12, .inl (fun _ => 0))), (a31_4, .inl (k31_4, 12, .inl (fun _ => 0)))] H := hP
  have hD : va_D A [(h0, .inr (5, [.int 0, .int 0, .int 0, .int 0, .ref a7_1, .ref a15_2, .ref a23_3, .ref a31_4, .null, .int 0, .int 0, .int 0, .null, .null, .null, .int 0])), (a7_1, .inl (k7_1, 6, .inl (fun _ => 0))), (a15_2, .inl (k15_2, 6, .inl (fun _ => 0))), (a23_3, .inl (k23_3, 12, .inl (fun _ => 0))), (a31_4, .inl (k31_4, 12, .inl (fun _ => 0)))] := hD
  refine lv_aload_n hx hb dX5_init_36 rfl (lv_at hl 0 rfl) ?_
  refine lv_sipush (v := 400) hx hb dX5_init_37 (by decide) ?_
  refine va_newa (atype := .int) (a0 := (400, .inl (fun _ => 0))) (ty := .int) hx hb (hts _ kw_280) rfl hK hP hD hS hA (fun _ => rfl) (by decide) (by decide) (by decide) (by decide) (by decide) dX5_init_40 (fun a40_5 k40_5 H hK hP hD hS => ?_)
  have hP : va_P D vwCl [(h0, .inr (5, [.int 0, .int 0, .int 0, .int 0, .ref a7_1, .ref a15_2, .ref a23_3, .ref a31_4, .null, .int 0, .int 0, .int 0, .null, .null, .null, .int 0])), (a7_1, .inl (k7_1, 6, .inl (fun _ => 0))), (a15_2, .inl (k15_2, 6, .inl (fun _ => 0))), (a23_3, .inl (k23_3, 12, .inl (fun _ => 0))), (a31_4, .inl (k31_4, 12, .inl (fun _ => 0))), (a40_5, .inl (k40_5, 400, .inl (fun _ => 0)))] H := hP
  have hD : va_D A [(h0, .inr (5, [.int 0, .int 0, .int 0, .int 0, .ref a7_1, .ref a15_2, .ref a23_3, .ref a31_4, .null, .int 0, .int 0, .int 0, .null, .null, .null, .int 0])), (a7_1, .inl (k7_1, 6, .inl (fun _ => 0))), (a15_2, .inl (k15_2, 6, .inl (fun _ => 0))), (a23_3, .inl (k23_3, 12, .inl (fun _ => 0))), (a31_4, .inl (k31_4, 12, .inl (fun _ => 0))), (a40_5, .inl (k40_5, 400, .inl (fun _ => 0)))] := hD
  have hK : va_K D vwCl [(k7_1, .int), (k15_2, .int), (k23_3, .int), (k31_4, .int), (k40_5, .int)] s := hK
  refine W.cs (cells' := 5) (slots' := 436) rfl rfl ?_
  refine va_putF (D := D) (ci := 5) (v := .ref a40_5) (ty := .array .int) (C := RX5) (T := TX5) (N := 16) hx hb hts inX5 tyX5 tyX5_ok nmX5 hown hK hP hD hS 0 rfl rfl 8 (by decide) (hts _ kw_216) (fun _ h9 => h9) rfl hin rfl (by decide +kernel) rfl rfl (Nat.le_of_ble_eq_true rfl) dX5_init_42 (fun H locs hP hD hS => ?_)
  have hP : va_P D vwCl [(h0, .inr (5, [.int 0, .int 0, .int 0, .int 0, .ref a7_1, .ref a15_2, .ref a23_3, .ref a31_4, .ref a40_5, .int 0, .int 0, .int 0, .null, .null, .null, .int 0])), (a7_1, .inl (k7_1, 6, .inl (fun _ => 0))), (a15_2, .inl (k15_2, 6, .inl (fun _ => 0))), (a23_3, .inl (k23_3, 12, .inl (fun _ => 0))), (a31_4, .inl (k31_4, 12, .inl (fun _ => 0))), (a40_5, .inl (k40_5, 400, .inl (fun _ => 0)))] H := hP
  have hD : va_D A [(h0, .inr (5, [.int 0, .int 0, .int 0, .int 0, .ref a7_1, .ref a15_2, .ref a23_3, .ref a31_4, .ref a40_5, .int 0, .int 0, .int 0, .null, .null, .null, .int 0])), (a7_1, .inl (k7_1, 6, .inl (fun _ => 0))), (a15_2, .inl (k15_2, 6, .inl (fun _ => 0))), (a23_3, .inl (k23_3, 12, .inl (fun _ => 0))), (a31_4, .inl (k31_4, 12, .inl (fun _ => 0))), (a40_5, .inl (k40_5, 400, .inl (fun _ => 0)))] := hD
  refine lv_aload_n hx hb dX5_init_45 rfl (lv_at hl 0 rfl) ?_
  refine lv_iconst (v := 4) hx hb dX5_init_46 (by decide) ?_
  refine va_newa (atype := .int) (a0 := (4, .inl (fun _ => 0))) (ty := .int) hx hb (hts _ kw_280) rfl hK hP hD hS hA (fun _ => rfl) (by decide) (by decide) (by decide) (by decide) (by decide) dX5_init_47 (fun a47_6 k47_6 H hK hP hD hS => ?_)
  have hP : va_P D vwCl [(h0, .inr (5, [.int 0, .int 0, .int 0, .int 0, .ref a7_1, .ref a15_2, .ref a23_3, .ref a31_4, .ref a40_5, .int 0, .int 0, .int 0, .null, .null, .null, .int 0])), (a7_1, .inl (k7_1, 6, .inl (fun _ => 0))), (a15_2, .inl (k15_2, 6, .inl (fun _ => 0))), (a23_3, .inl (k23_3, 12, .inl (fun _ => 0))), (a31_4, .inl (k31_4, 12, .inl (fun _ => 0))), (a40_5, .inl (k40_5, 400, .inl (fun _ => 0))), (a47_6, .inl (k47_6, 4, .inl (fun _ => 0)))] H := hP
  have hD : va_D A [(h0, .inr (5, [.int 0, .int 0, .int 0, .int 0, .ref a7_1, .ref a15_2, .ref a23_3, .ref a31_4, .ref a40_5, .int 0, .int 0, .int 0, .null, .null, .null, .int 0])), (a7_1, .inl (k7_1, 6, .inl (fun _ => 0))), (a15_2, .inl (k15_2, 6, .inl (fun _ => 0))), (a23_3, .inl (k23_3, 12, .inl (fun _ => 0))), (a31_4, .inl (k31_4, 12, .inl (fun _ => 0))), (a40_5, .inl (k40_5, 400, .inl (fun _ => 0))), (a47_6, .inl (k47_6, 4, .inl (fun _ => 0)))] := hD
  have hK : va_K D vwCl [(k7_1, .int), (k15_2, .int), (k23_3, .int), (k31_4, .int), (k40_5, .int), (k47_6, .int)] s := hK
  refine W.cs (cells' := 6) (slots' := 440) rfl rfl ?_
  refine va_putF (D := D) (ci := 5) (v := .ref a47_6) (ty := .array .int) (C := RX5) (T := TX5) (N := 16) hx hb hts inX5 tyX5 tyX5_ok nmX5 hown hK hP hD hS 0 rfl rfl 12 (by decide) (hts _ kw_231) (fun _ h9 => h9) rfl hin rfl (by decide +kernel) rfl rfl (Nat.le_of_ble_eq_true rfl) dX5_init_49 (fun H locs hP hD hS => ?_)
  have hP : va_P D vwCl [(h0, .inr (5, [.int 0, .int 0, .int 0, .int 0, .ref a7_1, .ref a15_2, .ref a23_3, .ref a31_4, .ref a40_5, .int 0, .int 0, .int 0, .ref a47_6, .null, .null, .int 0])), (a7_1, .inl (k7_1, 6, .inl (fun _ => 0))), (a15_2, .inl (k15_2, 6, .inl (fun _ => 0))), (a23_3, .inl (k23_3, 12, .inl (fun _ => 0))), (a31_4, .inl (k31_4, 12, .inl (fun _ => 0))), (a40_5, .inl (k40_5, 400, .inl (fun _ => 0))), (a47_6, .inl (k47_6, 4, .inl (fun _ => 0)))] H := hP
  have hD : va_D A [(h0, .inr (5, [.int 0, .int 0, .int 0, .int 0, .ref a7_1, .ref a15_2, .ref a23_3, .ref a31_4, .ref a40_5, .int 0, .int 0, .int 0, .ref a47_6, .null, .null, .int 0])), (a7_1, .inl (k7_1, 6, .inl (fun _ => 0))), (a15_2, .inl (k15_2, 6, .inl (fun _ => 0))), (a23_3, .inl (k23_3, 12, .inl (fun _ => 0))), (a31_4, .inl (k31_4, 12, .inl (fun _ => 0))), (a40_5, .inl (k40_5, 400, .inl (fun _ => 0))), (a47_6, .inl (k47_6, 4, .inl (fun _ => 0)))] := hD
  refine lv_aload_n hx hb dX5_init_52 rfl (lv_at hl 0 rfl) ?_
  refine lv_bipush (v := 16) hx hb dX5_init_53 (by decide) ?_
  refine va_newa (atype := .int) (a0 := (16, .inl (fun _ => 0))) (ty := .int) hx hb (hts _ kw_280) rfl hK hP hD hS hA (fun _ => rfl) (by decide) (by decide) (by decide) (by decide) (by decide) dX5_init_55 (fun a55_7 k55_7 H hK hP hD hS => ?_)
  have hP : va_P D vwCl [(h0, .inr (5, [.int 0, .int 0, .int 0, .int 0, .ref a7_1, .ref a15_2, .ref a23_3, .ref a31_4, .ref a40_5, .int 0, .int 0, .int 0, .ref a47_6, .null, .null, .int 0])), (a7_1, .inl (k7_1, 6, .inl (fun _ => 0))), (a15_2, .inl (k15_2, 6, .inl (fun _ => 0))), (a23_3, .inl (k23_3, 12, .inl (fun _ => 0))), (a31_4, .inl (k31_4, 12, .inl (fun _ => 0))), (a40_5, .inl (k40_5, 400, .inl (fun _ => 0))), (a47_6, .inl (k47_6, 4, .inl (fun _ => 0))), (a55_7, .inl (k55_7, 16, .inl (fun _ => 0)))] H := hP
  have hD : va_D A [(h0, .inr (5, [.int 0, .int 0, .int 0, .int 0, .ref a7_1, .ref a15_2, .ref a23_3, .ref a31_4, .ref a40_5, .int 0, .int 0, .int 0, .ref a47_6, .null, .null, .int 0])), (a7_1, .inl (k7_1, 6, .inl (fun _ => 0))), (a15_2, .inl (k15_2, 6, .inl (fun _ => 0))), (a23_3, .inl (k23_3, 12, .inl (fun _ => 0))), (a31_4, .inl (k31_4, 12, .inl (fun _ => 0))), (a40_5, .inl (k40_5, 400, .inl (fun _ => 0))), (a47_6, .inl (k47_6, 4, .inl (fun _ => 0))), (a55_7, .inl (k55_7, 16, .inl (fun _ => 0)))] := hD
  have hK : va_K D vwCl [(k7_1, .int), (k15_2, .int), (k23_3, .int), (k31_4, .int), (k40_5, .int), (k47_6, .int), (k55_7, .int)] s := hK
  refine W.cs (cells' := 7) (slots' := 456) rfl rfl ?_
  refine va_putF (D := D) (ci := 5) (v := .ref a55_7) (ty := .array .int) (C := RX5) (T := TX5) (N := 16) hx hb hts inX5 tyX5 tyX5_ok nmX5 hown hK hP hD hS 0 rfl rfl 13 (by decide) (hts _ kw_236) (fun _ h9 => h9) rfl hin rfl (by decide +kernel) rfl rfl (Nat.le_of_ble_eq_true rfl) dX5_init_57 (fun H locs hP hD hS => ?_)
  have hP : va_P D vwCl [(h0, .inr (5, [.int 0, .int 0, .int 0, .int 0, .ref a7_1, .ref a15_2, .ref a23_3, .ref a31_4, .ref a40_5, .int 0, .int 0, .int 0, .ref a47_6, .ref a55_7, .null, .int 0])), (a7_1, .inl (k7_1, 6, .inl (fun _ => 0))), (a15_2, .inl (k15_2, 6, .inl (fun _ => 0))), (a23_3, .inl (k23_3, 12, .inl (fun _ => 0))), (a31_4, .inl (k31_4, 12, .inl (fun _ => 0))), (a40_5, .inl (k40_5, 400, .inl (fun _ => 0))), (a47_6, .inl (k47_6, 4, .inl (fun _ => 0))), (a55_7, .inl (k55_7, 16, .inl (fun _ => 0)))] H := hP
  have hD : va_D A [(h0, .inr (5, [.int 0, .int 0, .int 0, .int 0, .ref a7_1, .ref a15_2, .ref a23_3, .ref a31_4, .ref a40_5, .int 0, .int 0, .int 0, .ref a47_6, .ref a55_7, .null, .int 0])), (a7_1, .inl (k7_1, 6, .inl (fun _ => 0))), (a15_2, .inl (k15_2, 6, .inl (fun _ => 0))), (a23_3, .inl (k23_3, 12, .inl (fun _ => 0))), (a31_4, .inl (k31_4, 12, .inl (fun _ => 0))), (a40_5, .inl (k40_5, 400, .inl (fun _ => 0))), (a47_6, .inl (k47_6, 4, .inl (fun _ => 0))), (a55_7, .inl (k55_7, 16, .inl (fun _ => 0)))] := hD
  refine lv_aload_n hx hb dX5_init_60 rfl (lv_at hl 0 rfl) ?_
  refine lv_sipush (v := 1820) hx hb dX5_init_61 (by decide) ?_
  refine va_newa (atype := .int) (a0 := (1820, .inl (fun _ => 0))) (ty := .int) hx hb (hts _ kw_280) rfl hK hP hD hS hA (fun _ => rfl) (by decide) (by decide) (by decide) (by decide) (by decide) dX5_init_64 (fun a64_8 k64_8 H hK hP hD hS => ?_)
  have hP : va_P D vwCl [(h0, .inr (5, [.int 0, .int 0, .int 0, .int 0, .ref a7_1, .ref a15_2, .ref a23_3, .ref a31_4, .ref a40_5, .int 0, .int 0, .int 0, .ref a47_6, .ref a55_7, .null, .int 0])), (a7_1, .inl (k7_1, 6, .inl (fun _ => 0))), (a15_2, .inl (k15_2, 6, .inl (fun _ => 0))), (a23_3, .inl (k23_3, 12, .inl (fun _ => 0))), (a31_4, .inl (k31_4, 12, .inl (fun _ => 0))), (a40_5, .inl (k40_5, 400, .inl (fun _ => 0))), (a47_6, .inl (k47_6, 4, .inl (fun _ => 0))), (a55_7, .inl (k55_7, 16, .inl (fun _ => 0))), (a64_8, .inl (k64_8, 1820, .inl (fun _ => 0)))] H := hP
  have hD : va_D A [(h0, .inr (5, [.int 0, .int 0, .int 0, .int 0, .ref a7_1, .ref a15_2, .ref a23_3, .ref a31_4, .ref a40_5, .int 0, .int 0, .int 0, .ref a47_6, .ref a55_7, .null, .int 0])), (a7_1, .inl (k7_1, 6, .inl (fun _ => 0))), (a15_2, .inl (k15_2, 6, .inl (fun _ => 0))), (a23_3, .inl (k23_3, 12, .inl (fun _ => 0))), (a31_4, .inl (k31_4, 12, .inl (fun _ => 0))), (a40_5, .inl (k40_5, 400, .inl (fun _ => 0))), (a47_6, .inl (k47_6, 4, .inl (fun _ => 0))), (a55_7, .inl (k55_7, 16, .inl (fun _ => 0))), (a64_8, .inl (k64_8, 1820, .inl (fun _ => 0)))] := hD
  have hK : va_K D vwCl [(k7_1, .int), (k15_2, .int), (k23_3, .int), (k31_4, .int), (k40_5, .int), (k47_6, .int), (k55_7, .int), (k64_8, .int)] s := hK
  refine W.cs (cells' := 8) (slots' := 2276) rfl rfl ?_
  refine va_putF (D := D) (ci := 5) (v := .ref a64_8) (ty := .array .int) (C := RX5) (T := TX5) (N := 16) hx hb hts inX5 tyX5 tyX5_ok nmX5 hown hK hP hD hS 0 rfl rfl 14 (by decide) (hts _ kw_240) (fun _ h9 => h9) rfl hin rfl (by decide +kernel) rfl rfl (Nat.le_of_ble_eq_true rfl) dX5_init_66 (fun H locs hP hD hS => ?_)
  have hP : va_P D vwCl [(h0, .inr (5, [.int 0, .int 0, .int 0, .int 0, .ref a7_1, .ref a15_2, .ref a23_3, .ref a31_4, .ref a40_5, .int 0, .int 0, .int 0, .ref a47_6, .ref a55_7, .ref a64_8, .int 0])), (a7_1, .inl (k7_1, 6, .inl (fun _ => 0))), (a15_2, .inl (k15_2, 6, .inl (fun _ => 0))), (a23_3, .inl (k23_3, 12, .inl (fun _ => 0))), (a31_4, .inl (k31_4, 12, .inl (fun _ => 0))), (a40_5, .inl (k40_5, 400, .inl (fun _ => 0))), (a47_6, .inl (k47_6, 4, .inl (fun _ => 0))), (a55_7, .inl (k55_7, 16, .inl (fun _ => 0))), (a64_8, .inl (k64_8, 1820, .inl (fun _ => 0)))] H := hP
  have hD : va_D A [(h0, .inr (5, [.int 0, .int 0, .int 0, .int 0, .ref a7_1, .ref a15_2, .ref a23_3, .ref a31_4, .ref a40_5, .int 0, .int 0, .int 0, .ref a47_6, .ref a55_7, .ref a64_8, .int 0])), (a7_1, .inl (k7_1, 6, .inl (fun _ => 0))), (a15_2, .inl (k15_2, 6, .inl (fun _ => 0))), (a23_3, .inl (k23_3, 12, .inl (fun _ => 0))), (a31_4, .inl (k31_4, 12, .inl (fun _ => 0))), (a40_5, .inl (k40_5, 400, .inl (fun _ => 0))), (a47_6, .inl (k47_6, 4, .inl (fun _ => 0))), (a55_7, .inl (k55_7, 16, .inl (fun _ => 0))), (a64_8, .inl (k64_8, 1820, .inl (fun _ => 0)))] := hD
  exact wr_v (q := (fun i => match i with | 0 => a7_1 | 1 => a15_2 | 2 => a23_3 | 3 => a31_4 | 4 => a40_5 | 5 => a47_6 | 6 => a55_7 | 7 => a64_8 | _ => 0)) (k := (fun i => match i with | 5 => k47_6 | 6 => k55_7 | 7 => k64_8 | _ => k47_6)) (g := (fun _ => fun _ => 0)) (gl := (fun _ => fun _ => 0)) hx hb hr hlocks hS (hP.sub [0, 6, 7, 8] rfl) (hK.sub [5, 6, 7] rfl) (hD.sub [0, 6, 7, 8] (by decide) rfl) dX5_init_69
set_option maxHeartbeats 4000000 in
set_option maxRecDepth 100000 in
theorem wX4_init {l : Launch} {D : va_G} {sz : Nat} (h0 : Nat) (a1 : Nat) : Wv l yX4_init cX4_init 2 1 2 78 D [(h0, .inr (4, [.null, .null, .null]))] [] [.ref h0, .ref a1] sz (fun _ => True) (fun q k g gl => []) (fun k => []) := by
  refine Wv.of (by decide) (Nat.le_of_ble_eq_true rfl) ?_
  intro p e s m below meth c ls A hx hb hr hml hown hts hlocks hin hP hK hD hA hS hE hAe hl
  have hown : s.vm.findClass "SignalTable$Judge" = some m.cls := hown
  have hin : meth.name = "<init>" := hin
  skip
  have hl : lv_has ls 2 [(0, .ref h0), (1, .ref a1)] := hl
  refine lv_aload_n hx hb dX4_init_0 rfl (lv_at hl 0 rfl) ?_
  refine W.objInit hx hb hown (hts _ kw_286) (hts _ kw_180) (hts _ kw_181) rfl (by rw [hml]; exact hl.1) rfl dX4_init_1 (by decide) (Nat.le_of_ble_eq_true rfl) ?_
  refine lv_aload_n hx hb dX4_init_4 rfl (lv_at hl 0 rfl) ?_
  refine lv_bipush (v := 14) hx hb dX4_init_5 (by decide) ?_
  refine va_newa (atype := .int) (a0 := (14, .inl (fun _ => 0))) (ty := .int) hx hb (hts _ kw_280) rfl hK hP hD hS hA (fun _ => rfl) (by decide) (by decide) (by decide) (by decide) (by decide) dX4_init_7 (fun a7_1 k7_1 H hK hP hD hS => ?_)
  have hP : va_P D vwCl [(h0, .inr (4, [.null, .null, .null])), (a7_1, .inl (k7_1, 14, .inl (fun _ => 0)))] H := hP
  have hD : va_D A [(h0, .inr (4, [.null, .null, .null])), (a7_1, .inl (k7_1, 14, .inl (fun _ => 0)))] := hD
  have hK : va_K D vwCl [(k7_1, .int)] s := hK
  refine W.cs (cells' := 1) (slots' := 14) rfl rfl ?_
  refine va_putF (D := D) (ci := 4) (v := .ref a7_1) (ty := .array .int) (C := RX4) (T := TX4) (N := 3) hx hb hts inX4 tyX4 tyX4_ok nmX4 hown hK hP hD hS 0 rfl rfl 1 (by decide) (hts _ kw_288) (fun _ h9 => h9) rfl hin rfl (by decide +kernel) rfl rfl (Nat.le_of_ble_eq_true rfl) dX4_init_9 (fun H locs hP hD hS => ?_)
  have hP : va_P D vwCl [(h0, .inr (4, [.null, .ref a7_1, .null])), (a7_1, .inl (k7_1, 14, .inl (fun _ => 0)))] H := hP
  have hD : va_D A [(h0, .inr (4, [.null, .ref a7_1, .null])), (a7_1, .inl (k7_1, 14, .inl (fun _ => 0)))] := hD
  refine lv_aload_n hx hb dX4_init_12 rfl (lv_at hl 0 rfl) ?_
  refine lv_bipush (v := 64) hx hb dX4_init_13 (by decide) ?_
  refine va_newa (atype := .int) (a0 := (64, .inl (fun _ => 0))) (ty := .int) hx hb (hts _ kw_280) rfl hK hP hD hS hA (fun _ => rfl) (by decide) (by decide) (by decide) (by decide) (by decide) dX4_init_15 (fun a15_2 k15_2 H hK hP hD hS => ?_)
  have hP : va_P D vwCl [(h0, .inr (4, [.null, .ref a7_1, .null])), (a7_1, .inl (k7_1, 14, .inl (fun _ => 0))), (a15_2, .inl (k15_2, 64, .inl (fun _ => 0)))] H := hP
  have hD : va_D A [(h0, .inr (4, [.null, .ref a7_1, .null])), (a7_1, .inl (k7_1, 14, .inl (fun _ => 0))), (a15_2, .inl (k15_2, 64, .inl (fun _ => 0)))] := hD
  have hK : va_K D vwCl [(k7_1, .int), (k15_2, .int)] s := hK
  refine W.cs (cells' := 2) (slots' := 78) rfl rfl ?_
  refine va_putF (D := D) (ci := 4) (v := .ref a15_2) (ty := .array .int) (C := RX4) (T := TX4) (N := 3) hx hb hts inX4 tyX4 tyX4_ok nmX4 hown hK hP hD hS 0 rfl rfl 2 (by decide) (hts _ kw_289) (fun _ h9 => h9) rfl hin rfl (by decide +kernel) rfl rfl (Nat.le_of_ble_eq_true rfl) dX4_init_17 (fun H locs hP hD hS => ?_)
  have hP : va_P D vwCl [(h0, .inr (4, [.null, .ref a7_1, .ref a15_2])), (a7_1, .inl (k7_1, 14, .inl (fun _ => 0))), (a15_2, .inl (k15_2, 64, .inl (fun _ => 0)))] H := hP
  have hD : va_D A [(h0, .inr (4, [.null, .ref a7_1, .ref a15_2])), (a7_1, .inl (k7_1, 14, .inl (fun _ => 0))), (a15_2, .inl (k15_2, 64, .inl (fun _ => 0)))] := hD
  refine lv_aload_n hx hb dX4_init_20 rfl (lv_at hl 0 rfl) ?_
  refine lv_aload_n hx hb dX4_init_21 rfl (lv_at hl 1 rfl) ?_
  refine va_putF (D := D) (ci := 4) (v := .ref a1) (ty := .object "SignalTable$Laws") (C := RX4) (T := TX4) (N := 3) hx hb hts inX4 tyX4 tyX4_ok nmX4 hown hK hP hD hS 0 rfl rfl 0 (by decide) (hts _ kw_287) (fun _ h9 => h9) rfl hin rfl (by decide +kernel) rfl rfl (Nat.le_of_ble_eq_true rfl) dX4_init_22 (fun H locs hP hD hS => ?_)
  have hP : va_P D vwCl [(h0, .inr (4, [.ref a1, .ref a7_1, .ref a15_2])), (a7_1, .inl (k7_1, 14, .inl (fun _ => 0))), (a15_2, .inl (k15_2, 64, .inl (fun _ => 0)))] H := hP
  have hD : va_D A [(h0, .inr (4, [.ref a1, .ref a7_1, .ref a15_2])), (a7_1, .inl (k7_1, 14, .inl (fun _ => 0))), (a15_2, .inl (k15_2, 64, .inl (fun _ => 0)))] := hD
  exact wr_v (q := (fun _ => 0)) (k := (fun _ => 0)) (g := (fun _ => fun _ => 0)) (gl := (fun _ => fun _ => 0)) hx hb hr hlocks hS (hP.sub [] rfl) (hK.sub [] rfl) (hD.sub [] (by decide) rfl) dX4_init_25
set_option maxHeartbeats 4000000 in
set_option maxRecDepth 100000 in
theorem wX3_init {l : Launch} {D : va_G} {sz : Nat} (h0 : Nat) (a1 : Nat) (a2 : Nat) : Wv l yX3_init cX3_init 3 1 11 140 D [(h0, .inr (3, [.null, .null, .int 0, .null, .null, .int 0, .int 0, .int 0, .null, .null, .null, .null, .null, .null, .null, .null, .null, .int 0]))] [] [.ref h0, .ref a1, .ref a2] sz (fun _ => True) (fun q k g gl => [(h0, .inr (3, [.ref a1, .ref a2, .int 0, .ref (q 0), .ref (q 1), .int 0, .int (-2), .int 0, .ref (q 2), .ref (q 3), .ref (q 4), .ref (q 5), .ref (q 6), .ref (q 7), .ref (q 8), .ref (q 9), .ref (q 10), .int 0])), ((q 0), .inl ((k 0), 4, .inl (fun _ => 0))), ((q 1), .inl ((k 1), 4, .inl (fun _ => 0))), ((q 2), .inl ((k 2), 16, .inl (fun _ => 0)))]) (fun k => [((k 0), .int), ((k 1), .int), ((k 2), .int)]) := by
  refine Wv.of (by decide) (Nat.le_of_ble_eq_true rfl) ?_
  intro p e s m below meth c ls A hx hb hr hml hown hts hlocks hin hP hK hD hA hS hE hAe hl
  have hown : s.vm.findClass "SignalTable$Game" = some m.cls := hown
  have hin : meth.name = "<init>" := hin
  skip
  have hl : lv_has ls 3 [(0, .ref h0), (1, .ref a1), (2, .ref a2)] := hl
  refine lv_aload_n hx hb dX3_init_0 rfl (lv_at hl 0 rfl) ?_
  refine W.objInit hx hb hown (hts _ kw_419) (hts _ kw_180) (hts _ kw_181) rfl (by rw [hml]; exact hl.1) rfl dX3_init_1 (by decide) (Nat.le_of_ble_eq_true rfl) ?_
  refine lv_aload_n hx hb dX3_init_4 rfl (lv_at hl 0 rfl) ?_
  refine lv_iconst (v := 4) hx hb dX3_init_5 (by decide) ?_
  refine va_newa (atype := .int) (a0 := (4, .inl (fun _ => 0))) (ty := .int) hx hb (hts _ kw_280) rfl hK hP hD hS hA (fun _ => rfl) (by decide) (by decide) (by decide) (by decide) (by decide) dX3_init_6 (fun a6_1 k6_1 H hK hP hD hS => ?_)
  have hP : va_P D vwCl [(h0, .inr (3, [.null, .null, .int 0, .null, .null, .int 0, .int 0, .int 0, .null, .null, .null, .null, .null, .null, .null, .null, .null, .int 0])), (a6_1, .inl (k6_1, 4, .inl (fun _ => 0)))] H := hP
  have hD : va_D A [(h0, .inr (3, [.null, .null, .int 0, .null, .null, .int 0, .int 0, .int 0, .null, .null, .null, .null, .null, .null, .null, .null, .null, .int 0])), (a6_1, .inl (k6_1, 4, .inl (fun _ => 0)))] := hD
  have hK : va_K D vwCl [(k6_1, .int)] s := hK
  refine W.cs (cells' := 1) (slots' := 4) rfl rfl ?_
  refine va_putF (D := D) (ci := 3) (v := .ref a6_1) (ty := .array .int) (C := RX3) (T := TX3) (N := 18) hx hb hts inX3 tyX3 tyX3_ok nmX3 hown hK hP hD hS 0 rfl rfl 3 (by decide) (hts _ kw_424) (fun _ h9 => h9) rfl hin rfl (by decide +kernel) rfl rfl (Nat.le_of_ble_eq_true rfl) dX3_init_8 (fun H locs hP hD hS => ?_)
  have hP : va_P D vwCl [(h0, .inr (3, [.null, .null, .int 0, .ref a6_1, .null, .int 0, .int 0, .int 0, .null, .null, .null, .null, .null, .null, .null, .null, .null, .int 0])), (a6_1, .inl (k6_1, 4, .inl (fun _ => 0)))] H := hP
  have hD : va_D A [(h0, .inr (3, [.null, .null, .int 0, .ref a6_1, .null, .int 0, .int 0, .int 0, .null, .null, .null, .null, .null, .null, .null, .null, .null, .int 0])), (a6_1, .inl (k6_1, 4, .inl (fun _ => 0)))] := hD
  refine lv_aload_n hx hb dX3_init_11 rfl (lv_at hl 0 rfl) ?_
  refine lv_iconst (v := 4) hx hb dX3_init_12 (by decide) ?_
  refine va_newa (atype := .int) (a0 := (4, .inl (fun _ => 0))) (ty := .int) hx hb (hts _ kw_280) rfl hK hP hD hS hA (fun _ => rfl) (by decide) (by decide) (by decide) (by decide) (by decide) dX3_init_13 (fun a13_2 k13_2 H hK hP hD hS => ?_)
  have hP : va_P D vwCl [(h0, .inr (3, [.null, .null, .int 0, .ref a6_1, .null, .int 0, .int 0, .int 0, .null, .null, .null, .null, .null, .null, .null, .null, .null, .int 0])), (a6_1, .inl (k6_1, 4, .inl (fun _ => 0))), (a13_2, .inl (k13_2, 4, .inl (fun _ => 0)))] H := hP
  have hD : va_D A [(h0, .inr (3, [.null, .null, .int 0, .ref a6_1, .null, .int 0, .int 0, .int 0, .null, .null, .null, .null, .null, .null, .null, .null, .null, .int 0])), (a6_1, .inl (k6_1, 4, .inl (fun _ => 0))), (a13_2, .inl (k13_2, 4, .inl (fun _ => 0)))] := hD
  have hK : va_K D vwCl [(k6_1, .int), (k13_2, .int)] s := hK
  refine W.cs (cells' := 2) (slots' := 8) rfl rfl ?_
  refine va_putF (D := D) (ci := 3) (v := .ref a13_2) (ty := .array .int) (C := RX3) (T := TX3) (N := 18) hx hb hts inX3 tyX3 tyX3_ok nmX3 hown hK hP hD hS 0 rfl rfl 4 (by decide) (hts _ kw_428) (fun _ h9 => h9) rfl hin rfl (by decide +kernel) rfl rfl (Nat.le_of_ble_eq_true rfl) dX3_init_15 (fun H locs hP hD hS => ?_)
  have hP : va_P D vwCl [(h0, .inr (3, [.null, .null, .int 0, .ref a6_1, .ref a13_2, .int 0, .int 0, .int 0, .null, .null, .null, .null, .null, .null, .null, .null, .null, .int 0])), (a6_1, .inl (k6_1, 4, .inl (fun _ => 0))), (a13_2, .inl (k13_2, 4, .inl (fun _ => 0)))] H := hP
  have hD : va_D A [(h0, .inr (3, [.null, .null, .int 0, .ref a6_1, .ref a13_2, .int 0, .int 0, .int 0, .null, .null, .null, .null, .null, .null, .null, .null, .null, .int 0])), (a6_1, .inl (k6_1, 4, .inl (fun _ => 0))), (a13_2, .inl (k13_2, 4, .inl (fun _ => 0)))] := hD
  refine lv_aload_n hx hb dX3_init_18 rfl (lv_at hl 0 rfl) ?_
  refine lv_bipush (v := (-2)) hx hb dX3_init_19 (by decide) ?_
  refine va_put (D := D) (ci := 3) (v := .int (-2)) (ty := .int) (C := RX3) (T := TX3) (N := 18) hx hb hts inX3 tyX3 tyX3_ok nmX3 hown hK hP hD hS 0 rfl rfl 6 (by decide) (hts _ kw_433) (fun _ h9 => h9) rfl (by decide +kernel) rfl rfl (Nat.le_of_ble_eq_true rfl) dX3_init_21 (fun H locs hP hD hS => ?_)
  have hP : va_P D vwCl [(h0, .inr (3, [.null, .null, .int 0, .ref a6_1, .ref a13_2, .int 0, .int (-2), .int 0, .null, .null, .null, .null, .null, .null, .null, .null, .null, .int 0])), (a6_1, .inl (k6_1, 4, .inl (fun _ => 0))), (a13_2, .inl (k13_2, 4, .inl (fun _ => 0)))] H := hP
  have hD : va_D A [(h0, .inr (3, [.null, .null, .int 0, .ref a6_1, .ref a13_2, .int 0, .int (-2), .int 0, .null, .null, .null, .null, .null, .null, .null, .null, .null, .int 0])), (a6_1, .inl (k6_1, 4, .inl (fun _ => 0))), (a13_2, .inl (k13_2, 4, .inl (fun _ => 0)))] := hD
  refine lv_aload_n hx hb dX3_init_24 rfl (lv_at hl 0 rfl) ?_
  refine lv_bipush (v := 16) hx hb dX3_init_25 (by decide) ?_
  refine va_newa (atype := .int) (a0 := (16, .inl (fun _ => 0))) (ty := .int) hx hb (hts _ kw_280) rfl hK hP hD hS hA (fun _ => rfl) (by decide) (by decide) (by decide) (by decide) (by decide) dX3_init_27 (fun a27_3 k27_3 H hK hP hD hS => ?_)
  have hP : va_P D vwCl [(h0, .inr (3, [.null, .null, .int 0, .ref a6_1, .ref a13_2, .int 0, .int (-2), .int 0, .null, .null, .null, .null, .null, .null, .null, .null, .null, .int 0])), (a6_1, .inl (k6_1, 4, .inl (fun _ => 0))), (a13_2, .inl (k13_2, 4, .inl (fun _ => 0))), (a27_3, .inl (k27_3, 16, .inl (fun _ => 0)))] H := hP
  have hD : va_D A [(h0, .inr (3, [.null, .null, .int 0, .ref a6_1, .ref a13_2, .int 0, .int (-2), .int 0, .null, .null, .null, .null, .null, .null, .null, .null, .null, .int 0])), (a6_1, .inl (k6_1, 4, .inl (fun _ => 0))), (a13_2, .inl (k13_2, 4, .inl (fun _ => 0))), (a27_3, .inl (k27_3, 16, .inl (fun _ => 0)))] := hD
  have hK : va_K D vwCl [(k6_1, .int), (k13_2, .int), (k27_3, .int)] s := hK
  refine W.cs (cells' := 3) (slots' := 24) rfl rfl ?_
  refine va_putF (D := D) (ci := 3) (v := .ref a27_3) (ty := .array .int) (C := RX3) (T := TX3) (N := 18) hx hb hts inX3 tyX3 tyX3_ok nmX3 hown hK hP hD hS 0 rfl rfl 8 (by decide) (hts _ kw_444) (fun _ h9 => h9) rfl hin rfl (by decide +kernel) rfl rfl (Nat.le_of_ble_eq_true rfl) dX3_init_29 (fun H locs hP hD hS => ?_)
  have hP : va_P D vwCl [(h0, .inr (3, [.null, .null, .int 0, .ref a6_1, .ref a13_2, .int 0, .int (-2), .int 0, .ref a27_3, .null, .null, .null, .null, .null, .null, .null, .null, .int 0])), (a6_1, .inl (k6_1, 4, .inl (fun _ => 0))), (a13_2, .inl (k13_2, 4, .inl (fun _ => 0))), (a27_3, .inl (k27_3, 16, .inl (fun _ => 0)))] H := hP
  have hD : va_D A [(h0, .inr (3, [.null, .null, .int 0, .ref a6_1, .ref a13_2, .int 0, .int (-2), .int 0, .ref a27_3, .null, .null, .null, .null, .null, .null, .null, .null, .int 0])), (a6_1, .inl (k6_1, 4, .inl (fun _ => 0))), (a13_2, .inl (k13_2, 4, .inl (fun _ => 0))), (a27_3, .inl (k27_3, 16, .inl (fun _ => 0)))] := hD
  refine lv_aload_n hx hb dX3_init_32 rfl (lv_at hl 0 rfl) ?_
  refine lv_bipush (v := 16) hx hb dX3_init_33 (by decide) ?_
  refine va_newa (atype := .int) (a0 := (16, .inl (fun _ => 0))) (ty := .int) hx hb (hts _ kw_280) rfl hK hP hD hS hA (fun _ => rfl) (by decide) (by decide) (by decide) (by decide) (by decide) dX3_init_35 (fun a35_4 k35_4 H hK hP hD hS => ?_)
  have hP : va_P D vwCl [(h0, .inr (3, [.null, .null, .int 0, .ref a6_1, .ref a13_2, .int 0, .int (-2), .int 0, .ref a27_3, .null, .null, .null, .null, .null, .null, .null, .null, .int 0])), (a6_1, .inl (k6_1, 4, .inl (fun _ => 0))), (a13_2, .inl (k13_2, 4, .inl (fun _ => 0))), (a27_3, .inl (k27_3, 16, .inl (fun _ => 0))), (a35_4, .inl (k35_4, 16, .inl (fun _ => 0)))] H := hP
  have hD : va_D A [(h0, .inr (3, [.null, .null, .int 0, .ref a6_1, .ref a13_2, .int 0, .int (-2), .int 0, .ref a27_3, .null, .null, .null, .null, .null, .null, .null, .null, .int 0])), (a6_1, .inl (k6_1, 4, .inl (fun _ => 0))), (a13_2, .inl (k13_2, 4, .inl (fun _ => 0))), (a27_3, .inl (k27_3, 16, .inl (fun _ => 0))), (a35_4, .inl (k35_4, 16, .inl (fun _ => 0)))] := hD
  have hK : va_K D vwCl [(k6_1, .int), (k13_2, .int), (k27_3, .int), (k35_4, .int)] s := hK
  refine W.cs (cells' := 4) (slots' := 40) rfl rfl ?_
  refine va_putF (D := D) (ci := 3) (v := .ref a35_4) (ty := .array .int) (C := RX3) (T := TX3) (N := 18) hx hb hts inX3 tyX3 tyX3_ok nmX3 hown hK hP hD hS 0 rfl rfl 9 (by decide) (hts _ kw_449) (fun _ h9 => h9) rfl hin rfl (by decide +kernel) rfl rfl (Nat.le_of_ble_eq_true rfl) dX3_init_37 (fun H locs hP hD hS => ?_)
  have hP : va_P D vwCl [(h0, .inr (3, [.null, .null, .int 0, .ref a6_1, .ref a13_2, .int 0, .int (-2), .int 0, .ref a27_3, .ref a35_4, .null, .null, .null, .null, .null, .null, .null, .int 0])), (a6_1, .inl (k6_1, 4, .inl (fun _ => 0))), (a13_2, .inl (k13_2, 4, .inl (fun _ => 0))), (a27_3, .inl (k27_3, 16, .inl (fun _ => 0))), (a35_4, .inl (k35_4, 16, .inl (fun _ => 0)))] H := hP
  have hD : va_D A [(h0, .inr (3, [.null, .null, .int 0, .ref a6_1, .ref a13_2, .int 0, .int (-2), .int 0, .ref a27_3, .ref a35_4, .null, .null, .null, .null, .null, .null, .null, .int 0])), (a6_1, .inl (k6_1, 4, .inl (fun _ => 0))), (a13_2, .inl (k13_2, 4, .inl (fun _ => 0))), (a27_3, .inl (k27_3, 16, .inl (fun _ => 0))), (a35_4, .inl (k35_4, 16, .inl (fun _ => 0)))] := hD
  refine lv_aload_n hx hb dX3_init_40 rfl (lv_at hl 0 rfl) ?_
  refine lv_bipush (v := 16) hx hb dX3_init_41 (by decide) ?_
  refine va_newa (atype := .int) (a0 := (16, .inl (fun _ => 0))) (ty := .int) hx hb (hts _ kw_280) rfl hK hP hD hS hA (fun _ => rfl) (by decide) (by decide) (by decide) (by decide) (by decide) dX3_init_43 (fun a43_5 k43_5 H hK hP hD hS => ?_)
  have hP : va_P D vwCl [(h0, .inr (3, [.null, .null, .int 0, .ref a6_1, .ref a13_2, .int 0, .int (-2), .int 0, .ref a27_3, .ref a35_4, .null, .null, .null, .null, .null, .null, .null, .int 0])), (a6_1, .inl (k6_1, 4, .inl (fun _ => 0))), (a13_2, .inl (k13_2, 4, .inl (fun _ => 0))), (a27_3, .inl (k27_3, 16, .inl (fun _ => 0))), (a35_4, .inl (k35_4, 16, .inl (fun _ => 0))), (a43_5, .inl (k43_5, 16, .inl (fun _ => 0)))] H := hP
  have hD : va_D A [(h0, .inr (3, [.null, .null, .int 0, .ref a6_1, .ref a13_2, .int 0, .int (-2), .int 0, .ref a27_3, .ref a35_4, .null, .null, .null, .null, .null, .null, .null, .int 0])), (a6_1, .inl (k6_1, 4, .inl (fun _ => 0))), (a13_2, .inl (k13_2, 4, .inl (fun _ => 0))), (a27_3, .inl (k27_3, 16, .inl (fun _ => 0))), (a35_4, .inl (k35_4, 16, .inl (fun _ => 0))), (a43_5, .inl (k43_5, 16, .inl (fun _ => 0)))] := hD
  have hK : va_K D vwCl [(k6_1, .int), (k13_2, .int), (k27_3, .int), (k35_4, .int), (k43_5, .int)] s := hK
  refine W.cs (cells' := 5) (slots' := 56) rfl rfl ?_
  refine va_putF (D := D) (ci := 3) (v := .ref a43_5) (ty := .array .int) (C := RX3) (T := TX3) (N := 18) hx hb hts inX3 tyX3 tyX3_ok nmX3 hown hK hP hD hS 0 rfl rfl 10 (by decide) (hts _ kw_454) (fun _ h9 => h9) rfl hin rfl (by decide +kernel) rfl rfl (Nat.le_of_ble_eq_true rfl) dX3_init_45 (fun H locs hP hD hS => ?_)
  have hP : va_P D vwCl [(h0, .inr (3, [.null, .null, .int 0, .ref a6_1, .ref a13_2, .int 0, .int (-2), .int 0, .ref a27_3, .ref a35_4, .ref a43_5, .null, .null, .null, .null, .null, .null, .int 0])), (a6_1, .inl (k6_1, 4, .inl (fun _ => 0))), (a13_2, .inl (k13_2, 4, .inl (fun _ => 0))), (a27_3, .inl (k27_3, 16, .inl (fun _ => 0))), (a35_4, .inl (k35_4, 16, .inl (fun _ => 0))), (a43_5, .inl (k43_5, 16, .inl (fun _ => 0)))] H := hP
  have hD : va_D A [(h0, .inr (3, [.null, .null, .int 0, .ref a6_1, .ref a13_2, .int 0, .int (-2), .int 0, .ref a27_3, .ref a35_4, .ref a43_5, .null, .null, .null, .null, .null, .null, .int 0])), (a6_1, .inl (k6_1, 4, .inl (fun _ => 0))), (a13_2, .inl (k13_2, 4, .inl (fun _ => 0))), (a27_3, .inl (k27_3, 16, .inl (fun _ => 0))), (a35_4, .inl (k35_4, 16, .inl (fun _ => 0))), (a43_5, .inl (k43_5, 16, .inl (fun _ => 0)))] := hD
  refine lv_aload_n hx hb dX3_init_48 rfl (lv_at hl 0 rfl) ?_
  refine lv_bipush (v := 16) hx hb dX3_init_49 (by decide) ?_
  refine va_newa (atype := .int) (a0 := (16, .inl (fun _ => 0))) (ty := .int) hx hb (hts _ kw_280) rfl hK hP hD hS hA (fun _ => rfl) (by decide) (by decide) (by decide) (by decide) (by decide) dX3_init_51 (fun a51_6 k51_6 H hK hP hD hS => ?_)
  have hP : va_P D vwCl [(h0, .inr (3, [.null, .null, .int 0, .ref a6_1, .ref a13_2, .int 0, .int (-2), .int 0, .ref a27_3, .ref a35_4, .ref a43_5, .null, .null, .null, .null, .null, .null, .int 0])), (a6_1, .inl (k6_1, 4, .inl (fun _ => 0))), (a13_2, .inl (k13_2, 4, .inl (fun _ => 0))), (a27_3, .inl (k27_3, 16, .inl (fun _ => 0))), (a35_4, .inl (k35_4, 16, .inl (fun _ => 0))), (a43_5, .inl (k43_5, 16, .inl (fun _ => 0))), (a51_6, .inl (k51_6, 16, .inl (fun _ => 0)))] H := hP
  have hD : va_D A [(h0, .inr (3, [.null, .null, .int 0, .ref a6_1, .ref a13_2, .int 0, .int (-2), .int 0, .ref a27_3, .ref a35_4, .ref a43_5, .null, .null, .null, .null, .null, .null, .int 0])), (a6_1, .inl (k6_1, 4, .inl (fun _ => 0))), (a13_2, .inl (k13_2, 4, .inl (fun _ => 0))), (a27_3, .inl (k27_3, 16, .inl (fun _ => 0))), (a35_4, .inl (k35_4, 16, .inl (fun _ => 0))), (a43_5, .inl (k43_5, 16, .inl (fun _ => 0))), (a51_6, .inl (k51_6, 16, .inl (fun _ => 0)))] := hD
  have hK : va_K D vwCl [(k6_1, .int), (k13_2, .int), (k27_3, .int), (k35_4, .int), (k43_5, .int), (k51_6, .int)] s := hK
  refine W.cs (cells' := 6) (slots' := 72) rfl rfl ?_
  refine va_putF (D := D) (ci := 3) (v := .ref a51_6) (ty := .array .int) (C := RX3) (T := TX3) (N := 18) hx hb hts inX3 tyX3 tyX3_ok nmX3 hown hK hP hD hS 0 rfl rfl 11 (by decide) (hts _ kw_457) (fun _ h9 => h9) rfl hin rfl (by decide +kernel) rfl rfl (Nat.le_of_ble_eq_true rfl) dX3_init_53 (fun H locs hP hD hS => ?_)
  have hP : va_P D vwCl [(h0, .inr (3, [.null, .null, .int 0, .ref a6_1, .ref a13_2, .int 0, .int (-2), .int 0, .ref a27_3, .ref a35_4, .ref a43_5, .ref a51_6, .null, .null, .null, .null, .null, .int 0])), (a6_1, .inl (k6_1, 4, .inl (fun _ => 0))), (a13_2, .inl (k13_2, 4, .inl (fun _ => 0))), (a27_3, .inl (k27_3, 16, .inl (fun _ => 0))), (a35_4, .inl (k35_4, 16, .inl (fun _ => 0))), (a43_5, .inl (k43_5, 16, .inl (fun _ => 0))), (a51_6, .inl (k51_6, 16, .inl (fun _ => 0)))] H := hP
  have hD : va_D A [(h0, .inr (3, [.null, .null, .int 0, .ref a6_1, .ref a13_2, .int 0, .int (-2), .int 0, .ref a27_3, .ref a35_4, .ref a43_5, .ref a51_6, .null, .null, .null, .null, .null, .int 0])), (a6_1, .inl (k6_1, 4, .inl (fun _ => 0))), (a13_2, .inl (k13_2, 4, .inl (fun _ => 0))), (a27_3, .inl (k27_3, 16, .inl (fun _ => 0))), (a35_4, .inl (k35_4, 16, .inl (fun _ => 0))), (a43_5, .inl (k43_5, 16, .inl (fun _ => 0))), (a51_6, .inl (k51_6, 16, .inl (fun _ => 0)))] := hD
  refine lv_aload_n hx hb dX3_init_56 rfl (lv_at hl 0 rfl) ?_
  refine lv_bipush (v := 16) hx hb dX3_init_57 (by decide) ?_
  refine va_newa (atype := .int) (a0 := (16, .inl (fun _ => 0))) (ty := .int) hx hb (hts _ kw_280) rfl hK hP hD hS hA (fun _ => rfl) (by decide) (by decide) (by decide) (by decide) (by decide) dX3_init_59 (fun a59_7 k59_7 H hK hP hD hS => ?_)
  have hP : va_P D vwCl [(h0, .inr (3, [.null, .null, .int 0, .ref a6_1, .ref a13_2, .int 0, .int (-2), .int 0, .ref a27_3, .ref a35_4, .ref a43_5, .ref a51_6, .null, .null, .null, .null, .null, .int 0])), (a6_1, .inl (k6_1, 4, .inl (fun _ => 0))), (a13_2, .inl (k13_2, 4, .inl (fun _ => 0))), (a27_3, .inl (k27_3, 16, .inl (fun _ => 0))), (a35_4, .inl (k35_4, 16, .inl (fun _ => 0))), (a43_5, .inl (k43_5, 16, .inl (fun _ => 0))), (a51_6, .inl (k51_6, 16, .inl (fun _ => 0))), (a59_7, .inl (k59_7, 16, .inl (fun _ => 0)))] H := hP
  have hD : va_D A [(h0, .inr (3, [.null, .null, .int 0, .ref a6_1, .ref a13_2, .int 0, .int (-2), .int 0, .ref a27_3, .ref a35_4, .ref a43_5, .ref a51_6, .null, .null, .null, .null, .null, .int 0])), (a6_1, .inl (k6_1, 4, .inl (fun _ => 0))), (a13_2, .inl (k13_2, 4, .inl (fun _ => 0))), (a27_3, .inl (k27_3, 16, .inl (fun _ => 0))), (a35_4, .inl (k35_4, 16, .inl (fun _ => 0))), (a43_5, .inl (k43_5, 16, .inl (fun _ => 0))), (a51_6, .inl (k51_6, 16, .inl (fun _ => 0))), (a59_7, .inl (k59_7, 16, .inl (fun _ => 0)))] := hD
  have hK : va_K D vwCl [(k6_1, .int), (k13_2, .int), (k27_3, .int), (k35_4, .int), (k43_5, .int), (k51_6, .int), (k59_7, .int)] s := hK
  refine W.cs (cells' := 7) (slots' := 88) rfl rfl ?_
  refine va_putF (D := D) (ci := 3) (v := .ref a59_7) (ty := .array .int) (C := RX3) (T := TX3) (N := 18) hx hb hts inX3 tyX3 tyX3_ok nmX3 hown hK hP hD hS 0 rfl rfl 12 (by decide) (hts _ kw_459) (fun _ h9 => h9) rfl hin rfl (by decide +kernel) rfl rfl (Nat.le_of_ble_eq_true rfl) dX3_init_61 (fun H locs hP hD hS => ?_)
  have hP : va_P D vwCl [(h0, .inr (3, [.null, .null, .int 0, .ref a6_1, .ref a13_2, .int 0, .int (-2), .int 0, .ref a27_3, .ref a35_4, .ref a43_5, .ref a51_6, .ref a59_7, .null, .null, .null, .null, .int 0])), (a6_1, .inl (k6_1, 4, .inl (fun _ => 0))), (a13_2, .inl (k13_2, 4, .inl (fun _ => 0))), (a27_3, .inl (k27_3, 16, .inl (fun _ => 0))), (a35_4, .inl (k35_4, 16, .inl (fun _ => 0))), (a43_5, .inl (k43_5, 16, .inl (fun _ => 0))), (a51_6, .inl (k51_6, 16, .inl (fun _ => 0))), (a59_7, .inl (k59_7, 16, .inl (fun _ => 0)))] H := hP
  have hD : va_D A [(h0, .inr (3, [.null, .null, .int 0, .ref a6_1, .ref a13_2, .int 0, .int (-2), .int 0, .ref a27_3, .ref a35_4, .ref a43_5, .ref a51_6, .ref a59_7, .null, .null, .null, .null, .int 0])), (a6_1, .inl (k6_1, 4, .inl (fun _ => 0))), (a13_2, .inl (k13_2, 4, .inl (fun _ => 0))), (a27_3, .inl (k27_3, 16, .inl (fun _ => 0))), (a35_4, .inl (k35_4, 16, .inl (fun _ => 0))), (a43_5, .inl (k43_5, 16, .inl (fun _ => 0))), (a51_6, .inl (k51_6, 16, .inl (fun _ => 0))), (a59_7, .inl (k59_7, 16, .inl (fun _ => 0)))] := hD
  refine lv_aload_n hx hb dX3_init_64 rfl (lv_at hl 0 rfl) ?_
  refine lv_bipush (v := 16) hx hb dX3_init_65 (by decide) ?_
  refine va_newa (atype := .int) (a0 := (16, .inl (fun _ => 0))) (ty := .int) hx hb (hts _ kw_280) rfl hK hP hD hS hA (fun _ => rfl) (by decide) (by decide) (by decide) (by decide) (by decide) dX3_init_67 (fun a67_8 k67_8 H hK hP hD hS => ?_)
  have hP : va_P D vwCl [(h0, .inr (3, [.null, .null, .int 0, .ref a6_1, .ref a13_2, .int 0, .int (-2), .int 0, .ref a27_3, .ref a35_4, .ref a43_5, .ref a51_6, .ref a59_7, .null, .null, .null, .null, .int 0])), (a6_1, .inl (k6_1, 4, .inl (fun _ => 0))), (a13_2, .inl (k13_2, 4, .inl (fun _ => 0))), (a27_3, .inl (k27_3, 16, .inl (fun _ => 0))), (a35_4, .inl (k35_4, 16, .inl (fun _ => 0))), (a43_5, .inl (k43_5, 16, .inl (fun _ => 0))), (a51_6, .inl (k51_6, 16, .inl (fun _ => 0))), (a59_7, .inl (k59_7, 16, .inl (fun _ => 0))), (a67_8, .inl (k67_8, 16, .inl (fun _ => 0)))] H := hP
  have hD : va_D A [(h0, .inr (3, [.null, .null, .int 0, .ref a6_1, .ref a13_2, .int 0, .int (-2), .int 0, .ref a27_3, .ref a35_4, .ref a43_5, .ref a51_6, .ref a59_7, .null, .null, .null, .null, .int 0])), (a6_1, .inl (k6_1, 4, .inl (fun _ => 0))), (a13_2, .inl (k13_2, 4, .inl (fun _ => 0))), (a27_3, .inl (k27_3, 16, .inl (fun _ => 0))), (a35_4, .inl (k35_4, 16, .inl (fun _ => 0))), (a43_5, .inl (k43_5, 16, .inl (fun _ => 0))), (a51_6, .inl (k51_6, 16, .inl (fun _ => 0))), (a59_7, .inl (k59_7, 16, .inl (fun _ => 0))), (a67_8, .inl (k67_8, 16, .inl (fun _ => 0)))] := hD
  have hK : va_K D vwCl [(k6_1, .int), (k13_2, .int), (k27_3, .int), (k35_4, .int), (k43_5, .int), (k51_6, .int), (k59_7, .int), (k67_8, .int)] s := hK
  refine W.cs (cells' := 8) (slots' := 104) rfl rfl ?_
  refine va_putF (D := D) (ci := 3) (v := .ref a67_8) (ty := .array .int) (C := RX3) (T := TX3) (N := 18) hx hb hts inX3 tyX3 tyX3_ok nmX3 hown hK hP hD hS 0 rfl rfl 13 (by decide) (hts _ kw_462) (fun _ h9 => h9) rfl hin rfl (by decide +kernel) rfl rfl (Nat.le_of_ble_eq_true rfl) dX3_init_69 (fun H locs hP hD hS => ?_)
  have hP : va_P D vwCl [(h0, .inr (3, [.null, .null, .int 0, .ref a6_1, .ref a13_2, .int 0, .int (-2), .int 0, .ref a27_3, .ref a35_4, .ref a43_5, .ref a51_6, .ref a59_7, .ref a67_8, .null, .null, .null, .int 0])), (a6_1, .inl (k6_1, 4, .inl (fun _ => 0))), (a13_2, .inl (k13_2, 4, .inl (fun _ => 0))), (a27_3, .inl (k27_3, 16, .inl (fun _ => 0))), (a35_4, .inl (k35_4, 16, .inl (fun _ => 0))), (a43_5, .inl (k43_5, 16, .inl (fun _ => 0))), (a51_6, .inl (k51_6, 16, .inl (fun _ => 0))), (a59_7, .inl (k59_7, 16, .inl (fun _ => 0))), (a67_8, .inl (k67_8, 16, .inl (fun _ => 0)))] H := hP
  have hD : va_D A [(h0, .inr (3, [.null, .null, .int 0, .ref a6_1, .ref a13_2, .int 0, .int (-2), .int 0, .ref a27_3, .ref a35_4, .ref a43_5, .ref a51_6, .ref a59_7, .ref a67_8, .null, .null, .null, .int 0])), (a6_1, .inl (k6_1, 4, .inl (fun _ => 0))), (a13_2, .inl (k13_2, 4, .inl (fun _ => 0))), (a27_3, .inl (k27_3, 16, .inl (fun _ => 0))), (a35_4, .inl (k35_4, 16, .inl (fun _ => 0))), (a43_5, .inl (k43_5, 16, .inl (fun _ => 0))), (a51_6, .inl (k51_6, 16, .inl (fun _ => 0))), (a59_7, .inl (k59_7, 16, .inl (fun _ => 0))), (a67_8, .inl (k67_8, 16, .inl (fun _ => 0)))] := hD
  refine lv_aload_n hx hb dX3_init_72 rfl (lv_at hl 0 rfl) ?_
  refine lv_bipush (v := 16) hx hb dX3_init_73 (by decide) ?_
  refine va_newa (atype := .int) (a0 := (16, .inl (fun _ => 0))) (ty := .int) hx hb (hts _ kw_280) rfl hK hP hD hS hA (fun _ => rfl) (by decide) (by decide) (by decide) (by decide) (by decide) dX3_init_75 (fun a75_9 k75_9 H hK hP hD hS => ?_)
  have hP : va_P D vwCl [(h0, .inr (3, [.null, .null, .int 0, .ref a6_1, .ref a13_2, .int 0, .int (-2), .int 0, .ref a27_3, .ref a35_4, .ref a43_5, .ref a51_6, .ref a59_7, .ref a67_8, .null, .null, .null, .int 0])), (a6_1, .inl (k6_1, 4, .inl (fun _ => 0))), (a13_2, .inl (k13_2, 4, .inl (fun _ => 0))), (a27_3, .inl (k27_3, 16, .inl (fun _ => 0))), (a35_4, .inl (k35_4, 16, .inl (fun _ => 0))), (a43_5, .inl (k43_5, 16, .inl (fun _ => 0))), (a51_6, .inl (k51_6, 16, .inl (fun _ => 0))), (a59_7, .inl (k59_7, 16, .inl (fun _ => 0))), (a67_8, .inl (k67_8, 16, .inl (fun _ => 0))), (a75_9, .inl (k75_9, 16, .inl (fun _ => 0)))] H := hP
  have hD : va_D A [(h0, .inr (3, [.null, .null, .int 0, .ref a6_1, .ref a13_2, .int 0, .int (-2), .int 0, .ref a27_3, .ref a35_4, .ref a43_5, .ref a51_6, .ref a59_7, .ref a67_8, .null, .null, .null, .int 0])), (a6_1, .inl (k6_1, 4, .inl (fun _ => 0))), (a13_2, .inl (k13_2, 4, .inl (fun _ => 0))), (a27_3, .inl (k27_3, 16, .inl (fun _ => 0))), (a35_4, .inl (k35_4, 16, .inl (fun _ => 0))), (a43_5, .inl (k43_5, 16, .inl (fun _ => 0))), (a51_6, .inl (k51_6, 16, .inl (fun _ => 0))), (a59_7, .inl (k59_7, 16, .inl (fun _ => 0))), (a67_8, .inl (k67_8, 16, .inl (fun _ => 0))), (a75_9, .inl (k75_9, 16, .inl (fun _ => 0)))] := hD
  have hK : va_K D vwCl [(k6_1, .int), (k13_2, .int), (k27_3, .int), (k35_4, .int), (k43_5, .int), (k51_6, .int), (k59_7, .int), (k67_8, .int), (k75_9, .int)] s := hK
  refine W.cs (cells' := 9) (slots' := 120) rfl rfl ?_
  refine va_putF (D := D) (ci := 3) (v := .ref a75_9) (ty := .array .int) (C := RX3) (T := TX3) (N := 18) hx hb hts inX3 tyX3 tyX3_ok nmX3 hown hK hP hD hS 0 rfl rfl 14 (by decide) (hts _ kw_464) (fun _ h9 => h9) rfl hin rfl (by decide +kernel) rfl rfl (Nat.le_of_ble_eq_true rfl) dX3_init_77 (fun H locs hP hD hS => ?_)
  have hP : va_P D vwCl [(h0, .inr (3, [.null, .null, .int 0, .ref a6_1, .ref a13_2, .int 0, .int (-2), .int 0, .ref a27_3, .ref a35_4, .ref a43_5, .ref a51_6, .ref a59_7, .ref a67_8, .ref a75_9, .null, .null, .int 0])), (a6_1, .inl (k6_1, 4, .inl (fun _ => 0))), (a13_2, .inl (k13_2, 4, .inl (fun _ => 0))), (a27_3, .inl (k27_3, 16, .inl (fun _ => 0))), (a35_4, .inl (k35_4, 16, .inl (fun _ => 0))), (a43_5, .inl (k43_5, 16, .inl (fun _ => 0))), (a51_6, .inl (k51_6, 16, .inl (fun _ => 0))), (a59_7, .inl (k59_7, 16, .inl (fun _ => 0))), (a67_8, .inl (k67_8, 16, .inl (fun _ => 0))), (a75_9, .inl (k75_9, 16, .inl (fun _ => 0)))] H := hP
  have hD : va_D A [(h0, .inr (3, [.null, .null, .int 0, .ref a6_1, .ref a13_2, .int 0, .int (-2), .int 0, .ref a27_3, .ref a35_4, .ref a43_5, .ref a51_6, .ref a59_7, .ref a67_8, .ref a75_9, .null, .null, .int 0])), (a6_1, .inl (k6_1, 4, .inl (fun _ => 0))), (a13_2, .inl (k13_2, 4, .inl (fun _ => 0))), (a27_3, .inl (k27_3, 16, .inl (fun _ => 0))), (a35_4, .inl (k35_4, 16, .inl (fun _ => 0))), (a43_5, .inl (k43_5, 16, .inl (fun _ => 0))), (a51_6, .inl (k51_6, 16, .inl (fun _ => 0))), (a59_7, .inl (k59_7, 16, .inl (fun _ => 0))), (a67_8, .inl (k67_8, 16, .inl (fun _ => 0))), (a75_9, .inl (k75_9, 16, .inl (fun _ => 0)))] := hD
  refine lv_aload_n hx hb dX3_init_80 rfl (lv_at hl 0 rfl) ?_
  refine lv_bipush (v := 16) hx hb dX3_init_81 (by decide) ?_
  refine va_newa (atype := .int) (a0 := (16, .inl (fun _ => 0))) (ty := .int) hx hb (hts _ kw_280) rfl hK hP hD hS hA (fun _ => rfl) (by decide) (by decide) (by decide) (by decide) (by decide) dX3_init_83 (fun a83_10 k83_10 H hK hP hD hS => ?_)
  have hP : va_P D vwCl [(h0, .inr (3, [.null, .null, .int 0, .ref a6_1, .ref a13_2, .int 0, .int (-2), .int 0, .ref a27_3, .ref a35_4, .ref a43_5, .ref a51_6, .ref a59_7, .ref a67_8, .ref a75_9, .null, .null, .int 0])), (a6_1, .inl (k6_1, 4, .inl (fun _ => 0))), (a13_2, .inl (k13_2, 4, .inl (fun _ => 0))), (a27_3, .inl (k27_3, 16, .inl (fun _ => 0))), (a35_4, .inl (k35_4, 16, .inl (fun _ => 0))), (a43_5, .inl (k43_5, 16, .inl (fun _ => 0))), (a51_6, .inl (k51_6, 16, .inl (fun _ => 0))), (a59_7, .inl (k59_7, 16, .inl (fun _ => 0))), (a67_8, .inl (k67_8, 16, .inl (fun _ => 0))), (a75_9, .inl (k75_9, 16, .inl (fun _ => 0))), (a83_10, .inl (k83_10, 16, .inl (fun _ => 0)))] H := hP
  have hD : va_D A [(h0, .inr (3, [.null, .null, .int 0, .ref a6_1, .ref a13_2, .int 0, .int (-2), .int 0, .ref a27_3, .ref a35_4, .ref a43_5, .ref a51_6, .ref a59_7, .ref a67_8, .ref a75_9, .null, .null, .int 0])), (a6_1, .inl (k6_1, 4, .inl (fun _ => 0))), (a13_2, .inl (k13_2, 4, .inl (fun _ => 0))), (a27_3, .inl (k27_3, 16, .inl (fun _ => 0))), (a35_4, .inl (k35_4, 16, .inl (fun _ => 0))), (a43_5, .inl (k43_5, 16, .inl (fun _ => 0))), (a51_6, .inl (k51_6, 16, .inl (fun _ => 0))), (a59_7, .inl (k59_7, 16, .inl (fun _ => 0))), (a67_8, .inl (k67_8, 16, .inl (fun _ => 0))), (a75_9, .inl (k75_9, 16, .inl (fun _ => 0))), (a83_10, .inl (k83_10, 16, .inl (fun _ => 0)))] := hD
  have hK : va_K D vwCl [(k6_1, .int), (k13_2, .int), (k27_3, .int), (k35_4, .int), (k43_5, .int), (k51_6, .int), (k59_7, .int), (k67_8, .int), (k75_9, .int), (k83_10, .int)] s := hK
  refine W.cs (cells' := 10) (slots' := 136) rfl rfl ?_
  refine va_putF (D := D) (ci := 3) (v := .ref a83_10) (ty := .array .int) (C := RX3) (T := TX3) (N := 18) hx hb hts inX3 tyX3 tyX3_ok nmX3 hown hK hP hD hS 0 rfl rfl 15 (by decide) (hts _ kw_469) (fun _ h9 => h9) rfl hin rfl (by decide +kernel) rfl rfl (Nat.le_of_ble_eq_true rfl) dX3_init_85 (fun H locs hP hD hS => ?_)
  have hP : va_P D vwCl [(h0, .inr (3, [.null, .null, .int 0, .ref a6_1, .ref a13_2, .int 0, .int (-2), .int 0, .ref a27_3, .ref a35_4, .ref a43_5, .ref a51_6, .ref a59_7, .ref a67_8, .ref a75_9, .ref a83_10, .null, .int 0])), (a6_1, .inl (k6_1, 4, .inl (fun _ => 0))), (a13_2, .inl (k13_2, 4, .inl (fun _ => 0))), (a27_3, .inl (k27_3, 16, .inl (fun _ => 0))), (a35_4, .inl (k35_4, 16, .inl (fun _ => 0))), (a43_5, .inl (k43_5, 16, .inl (fun _ => 0))), (a51_6, .inl (k51_6, 16, .inl (fun _ => 0))), (a59_7, .inl (k59_7, 16, .inl (fun _ => 0))), (a67_8, .inl (k67_8, 16, .inl (fun _ => 0))), (a75_9, .inl (k75_9, 16, .inl (fun _ => 0))), (a83_10, .inl (k83_10, 16, .inl (fun _ => 0)))] H := hP
  have hD : va_D A [(h0, .inr (3, [.null, .null, .int 0, .ref a6_1, .ref a13_2, .int 0, .int (-2), .int 0, .ref a27_3, .ref a35_4, .ref a43_5, .ref a51_6, .ref a59_7, .ref a67_8, .ref a75_9, .ref a83_10, .null, .int 0])), (a6_1, .inl (k6_1, 4, .inl (fun _ => 0))), (a13_2, .inl (k13_2, 4, .inl (fun _ => 0))), (a27_3, .inl (k27_3, 16, .inl (fun _ => 0))), (a35_4, .inl (k35_4, 16, .inl (fun _ => 0))), (a43_5, .inl (k43_5, 16, .inl (fun _ => 0))), (a51_6, .inl (k51_6, 16, .inl (fun _ => 0))), (a59_7, .inl (k59_7, 16, .inl (fun _ => 0))), (a67_8, .inl (k67_8, 16, .inl (fun _ => 0))), (a75_9, .inl (k75_9, 16, .inl (fun _ => 0))), (a83_10, .inl (k83_10, 16, .inl (fun _ => 0)))] := hD
  refine lv_aload_n hx hb dX3_init_88 rfl (lv_at hl 0 rfl) ?_
  refine lv_iconst (v := 4) hx hb dX3_init_89 (by decide) ?_
  refine va_newa (atype := .int) (a0 := (4, .inl (fun _ => 0))) (ty := .int) hx hb (hts _ kw_280) rfl hK hP hD hS hA (fun _ => rfl) (by decide) (by decide) (by decide) (by decide) (by decide) dX3_init_90 (fun a90_11 k90_11 H hK hP hD hS => ?_)
  have hP : va_P D vwCl [(h0, .inr (3, [.null, .null, .int 0, .ref a6_1, .ref a13_2, .int 0, .int (-2), .int 0, .ref a27_3, .ref a35_4, .ref a43_5, .ref a51_6, .ref a59_7, .ref a67_8, .ref a75_9, .ref a83_10, .null, .int 0])), (a6_1, .inl (k6_1, 4, .inl (fun _ => 0))), (a13_2, .inl (k13_2, 4, .inl (fun _ => 0))), (a27_3, .inl (k27_3, 16, .inl (fun _ => 0))), (a35_4, .inl (k35_4, 16, .inl (fun _ => 0))), (a43_5, .inl (k43_5, 16, .inl (fun _ => 0))), (a51_6, .inl (k51_6, 16, .inl (fun _ => 0))), (a59_7, .inl (k59_7, 16, .inl (fun _ => 0))), (a67_8, .inl (k67_8, 16, .inl (fun _ => 0))), (a75_9, .inl (k75_9, 16, .inl (fun _ => 0))), (a83_10, .inl (k83_10, 16, .inl (fun _ => 0))), (a90_11, .inl (k90_11, 4, .inl (fun _ => 0)))] H := hP
  have hD : va_D A [(h0, .inr (3, [.null, .null, .int 0, .ref a6_1, .ref a13_2, .int 0, .int (-2), .int 0, .ref a27_3, .ref a35_4, .ref a43_5, .ref a51_6, .ref a59_7, .ref a67_8, .ref a75_9, .ref a83_10, .null, .int 0])), (a6_1, .inl (k6_1, 4, .inl (fun _ => 0))), (a13_2, .inl (k13_2, 4, .inl (fun _ => 0))), (a27_3, .inl (k27_3, 16, .inl (fun _ => 0))), (a35_4, .inl (k35_4, 16, .inl (fun _ => 0))), (a43_5, .inl (k43_5, 16, .inl (fun _ => 0))), (a51_6, .inl (k51_6, 16, .inl (fun _ => 0))), (a59_7, .inl (k59_7, 16, .inl (fun _ => 0))), (a67_8, .inl (k67_8, 16, .inl (fun _ => 0))), (a75_9, .inl (k75_9, 16, .inl (fun _ => 0))), (a83_10, .inl (k83_10, 16, .inl (fun _ => 0))), (a90_11, .inl (k90_11, 4, .inl (fun _ => 0)))] := hD
  have hK : va_K D vwCl [(k6_1, .int), (k13_2, .int), (k27_3, .int), (k35_4, .int), (k43_5, .int), (k51_6, .int), (k59_7, .int), (k67_8, .int), (k75_9, .int), (k83_10, .int), (k90_11, .int)] s := hK
  refine W.cs (cells' := 11) (slots' := 140) rfl rfl ?_
  refine va_putF (D := D) (ci := 3) (v := .ref a90_11) (ty := .array .int) (C := RX3) (T := TX3) (N := 18) hx hb hts inX3 tyX3 tyX3_ok nmX3 hown hK hP hD hS 0 rfl rfl 16 (by decide) (hts _ kw_472) (fun _ h9 => h9) rfl hin rfl (by decide +kernel) rfl rfl (Nat.le_of_ble_eq_true rfl) dX3_init_92 (fun H locs hP hD hS => ?_)
  have hP : va_P D vwCl [(h0, .inr (3, [.null, .null, .int 0, .ref a6_1, .ref a13_2, .int 0, .int (-2), .int 0, .ref a27_3, .ref a35_4, .ref a43_5, .ref a51_6, .ref a59_7, .ref a67_8, .ref a75_9, .ref a83_10, .ref a90_11, .int 0])), (a6_1, .inl (k6_1, 4, .inl (fun _ => 0))), (a13_2, .inl (k13_2, 4, .inl (fun _ => 0))), (a27_3, .inl (k27_3, 16, .inl (fun _ => 0))), (a35_4, .inl (k35_4, 16, .inl (fun _ => 0))), (a43_5, .inl (k43_5, 16, .inl (fun _ => 0))), (a51_6, .inl (k51_6, 16, .inl (fun _ => 0))), (a59_7, .inl (k59_7, 16, .inl (fun _ => 0))), (a67_8, .inl (k67_8, 16, .inl (fun _ => 0))), (a75_9, .inl (k75_9, 16, .inl (fun _ => 0))), (a83_10, .inl (k83_10, 16, .inl (fun _ => 0))), (a90_11, .inl (k90_11, 4, .inl (fun _ => 0)))] H := hP
  have hD : va_D A [(h0, .inr (3, [.null, .null, .int 0, .ref a6_1, .ref a13_2, .int 0, .int (-2), .int 0, .ref a27_3, .ref a35_4, .ref a43_5, .ref a51_6, .ref a59_7, .ref a67_8, .ref a75_9, .ref a83_10, .ref a90_11, .int 0])), (a6_1, .inl (k6_1, 4, .inl (fun _ => 0))), (a13_2, .inl (k13_2, 4, .inl (fun _ => 0))), (a27_3, .inl (k27_3, 16, .inl (fun _ => 0))), (a35_4, .inl (k35_4, 16, .inl (fun _ => 0))), (a43_5, .inl (k43_5, 16, .inl (fun _ => 0))), (a51_6, .inl (k51_6, 16, .inl (fun _ => 0))), (a59_7, .inl (k59_7, 16, .inl (fun _ => 0))), (a67_8, .inl (k67_8, 16, .inl (fun _ => 0))), (a75_9, .inl (k75_9, 16, .inl (fun _ => 0))), (a83_10, .inl (k83_10, 16, .inl (fun _ => 0))), (a90_11, .inl (k90_11, 4, .inl (fun _ => 0)))] := hD
  refine lv_aload_n hx hb dX3_init_95 rfl (lv_at hl 0 rfl) ?_
  refine lv_aload_n hx hb dX3_init_96 rfl (lv_at hl 1 rfl) ?_
  refine va_putF (D := D) (ci := 3) (v := .ref a1) (ty := .object "SignalTable$Laws") (C := RX3) (T := TX3) (N := 18) hx hb hts inX3 tyX3 tyX3_ok nmX3 hown hK hP hD hS 0 rfl rfl 0 (by decide) (hts _ kw_420) (fun _ h9 => h9) rfl hin rfl (by decide +kernel) rfl rfl (Nat.le_of_ble_eq_true rfl) dX3_init_97 (fun H locs hP hD hS => ?_)
  have hP : va_P D vwCl [(h0, .inr (3, [.ref a1, .null, .int 0, .ref a6_1, .ref a13_2, .int 0, .int (-2), .int 0, .ref a27_3, .ref a35_4, .ref a43_5, .ref a51_6, .ref a59_7, .ref a67_8, .ref a75_9, .ref a83_10, .ref a90_11, .int 0])), (a6_1, .inl (k6_1, 4, .inl (fun _ => 0))), (a13_2, .inl (k13_2, 4, .inl (fun _ => 0))), (a27_3, .inl (k27_3, 16, .inl (fun _ => 0))), (a35_4, .inl (k35_4, 16, .inl (fun _ => 0))), (a43_5, .inl (k43_5, 16, .inl (fun _ => 0))), (a51_6, .inl (k51_6, 16, .inl (fun _ => 0))), (a59_7, .inl (k59_7, 16, .inl (fun _ => 0))), (a67_8, .inl (k67_8, 16, .inl (fun _ => 0))), (a75_9, .inl (k75_9, 16, .inl (fun _ => 0))), (a83_10, .inl (k83_10, 16, .inl (fun _ => 0))), (a90_11, .inl (k90_11, 4, .inl (fun _ => 0)))] H := hP
  have hD : va_D A [(h0, .inr (3, [.ref a1, .null, .int 0, .ref a6_1, .ref a13_2, .int 0, .int (-2), .int 0, .ref a27_3, .ref a35_4, .ref a43_5, .ref a51_6, .ref a59_7, .ref a67_8, .ref a75_9, .ref a83_10, .ref a90_11, .int 0])), (a6_1, .inl (k6_1, 4, .inl (fun _ => 0))), (a13_2, .inl (k13_2, 4, .inl (fun _ => 0))), (a27_3, .inl (k27_3, 16, .inl (fun _ => 0))), (a35_4, .inl (k35_4, 16, .inl (fun _ => 0))), (a43_5, .inl (k43_5, 16, .inl (fun _ => 0))), (a51_6, .inl (k51_6, 16, .inl (fun _ => 0))), (a59_7, .inl (k59_7, 16, .inl (fun _ => 0))), (a67_8, .inl (k67_8, 16, .inl (fun _ => 0))), (a75_9, .inl (k75_9, 16, .inl (fun _ => 0))), (a83_10, .inl (k83_10, 16, .inl (fun _ => 0))), (a90_11, .inl (k90_11, 4, .inl (fun _ => 0)))] := hD
  refine lv_aload_n hx hb dX3_init_100 rfl (lv_at hl 0 rfl) ?_
  refine lv_aload_n hx hb dX3_init_101 rfl (lv_at hl 2 rfl) ?_
  refine va_putF (D := D) (ci := 3) (v := .ref a2) (ty := .object "SignalTable$Judge") (C := RX3) (T := TX3) (N := 18) hx hb hts inX3 tyX3 tyX3_ok nmX3 hown hK hP hD hS 0 rfl rfl 1 (by decide) (hts _ kw_421) (fun _ h9 => h9) rfl hin rfl (by decide +kernel) rfl rfl (Nat.le_of_ble_eq_true rfl) dX3_init_102 (fun H locs hP hD hS => ?_)
  have hP : va_P D vwCl [(h0, .inr (3, [.ref a1, .ref a2, .int 0, .ref a6_1, .ref a13_2, .int 0, .int (-2), .int 0, .ref a27_3, .ref a35_4, .ref a43_5, .ref a51_6, .ref a59_7, .ref a67_8, .ref a75_9, .ref a83_10, .ref a90_11, .int 0])), (a6_1, .inl (k6_1, 4, .inl (fun _ => 0))), (a13_2, .inl (k13_2, 4, .inl (fun _ => 0))), (a27_3, .inl (k27_3, 16, .inl (fun _ => 0))), (a35_4, .inl (k35_4, 16, .inl (fun _ => 0))), (a43_5, .inl (k43_5, 16, .inl (fun _ => 0))), (a51_6, .inl (k51_6, 16, .inl (fun _ => 0))), (a59_7, .inl (k59_7, 16, .inl (fun _ => 0))), (a67_8, .inl (k67_8, 16, .inl (fun _ => 0))), (a75_9, .inl (k75_9, 16, .inl (fun _ => 0))), (a83_10, .inl (k83_10, 16, .inl (fun _ => 0))), (a90_11, .inl (k90_11, 4, .inl (fun _ => 0)))] H := hP
  have hD : va_D A [(h0, .inr (3, [.ref a1, .ref a2, .int 0, .ref a6_1, .ref a13_2, .int 0, .int (-2), .int 0, .ref a27_3, .ref a35_4, .ref a43_5, .ref a51_6, .ref a59_7, .ref a67_8, .ref a75_9, .ref a83_10, .ref a90_11, .int 0])), (a6_1, .inl (k6_1, 4, .inl (fun _ => 0))), (a13_2, .inl (k13_2, 4, .inl (fun _ => 0))), (a27_3, .inl (k27_3, 16, .inl (fun _ => 0))), (a35_4, .inl (k35_4, 16, .inl (fun _ => 0))), (a43_5, .inl (k43_5, 16, .inl (fun _ => 0))), (a51_6, .inl (k51_6, 16, .inl (fun _ => 0))), (a59_7, .inl (k59_7, 16, .inl (fun _ => 0))), (a67_8, .inl (k67_8, 16, .inl (fun _ => 0))), (a75_9, .inl (k75_9, 16, .inl (fun _ => 0))), (a83_10, .inl (k83_10, 16, .inl (fun _ => 0))), (a90_11, .inl (k90_11, 4, .inl (fun _ => 0)))] := hD
  exact wr_v (q := (fun i => match i with | 0 => a6_1 | 1 => a13_2 | 2 => a27_3 | 3 => a35_4 | 4 => a43_5 | 5 => a51_6 | 6 => a59_7 | 7 => a67_8 | 8 => a75_9 | 9 => a83_10 | 10 => a90_11 | _ => 0)) (k := (fun i => match i with | 0 => k6_1 | 1 => k13_2 | 2 => k27_3 | _ => k6_1)) (g := (fun _ => fun _ => 0)) (gl := (fun _ => fun _ => 0)) hx hb hr hlocks hS (hP.sub [0, 1, 2, 3] rfl) (hK.sub [0, 1, 2] rfl) (hD.sub [0, 1, 2, 3] (by decide) rfl) dX3_init_105
set_option maxHeartbeats 4000000 in
set_option maxRecDepth 100000 in
theorem wX6_init {l : Launch} {D : va_G} {sz : Nat} (h0 : Nat) (a1 : Nat) (b0 : Nat) (b1 : Nat) (b2 : Nat) (b3 : Nat) (b4 : Nat) (b5 : Nat) (b6 : Nat) (b7 : Nat) : Wv l yX6_init cX6_init 2 1 4 2072 D [(h0, .inr (6, [.null, .null, .null, .null, .int 0, .int 0, .int 0, .int 0, .null, .int 0, .int 0, .null, .null, .int 0])), (a1, .inr (5, [.int 0, .int 0, .int 0, .int 0, .ref b0, .ref b1, .ref b2, .ref b3, .ref b4, .int 0, .int 0, .int 0, .ref b5, .ref b6, .ref b7, .int 0]))] [] [.ref h0, .ref a1] sz (fun _ => True) (fun q k g gl => [(h0, .inr (6, [.ref a1, .ref b5, .ref b6, .ref (q 0), .int 0, .int 0, .int 0, .int 0, .ref (q 1), .int 0, .int 1, .ref (q 2), .ref (q 3), .int (-1)])), ((q 2), .inl ((k 2), 4, .inl (fun _ => 0))), (a1, .inr (5, [.int 0, .int 0, .int 0, .int 0, .ref b0, .ref b1, .ref b2, .ref b3, .ref b4, .int 0, .int 0, .int 0, .ref b5, .ref b6, .ref b7, .int 0]))]) (fun k => [((k 2), .int)]) := by
  refine Wv.of (by decide) (Nat.le_of_ble_eq_true rfl) ?_
  intro p e s m below meth c ls A hx hb hr hml hown hts hlocks hin hP hK hD hA hS hE hAe hl
  have hown : s.vm.findClass "SignalTable$Open" = some m.cls := hown
  have hin : meth.name = "<init>" := hin
  skip
  have hl : lv_has ls 2 [(0, .ref h0), (1, .ref a1)] := hl
  refine lv_aload_n hx hb dX6_init_0 rfl (lv_at hl 0 rfl) ?_
  refine W.objInit hx hb hown (hts _ kw_520) (hts _ kw_180) (hts _ kw_181) rfl (by rw [hml]; exact hl.1) rfl dX6_init_1 (by decide) (Nat.le_of_ble_eq_true rfl) ?_
  refine lv_aload_n hx hb dX6_init_4 rfl (lv_at hl 0 rfl) ?_
  refine lv_iconst (v := 4) hx hb dX6_init_5 (by decide) ?_
  refine va_newa (atype := .int) (a0 := (4, .inl (fun _ => 0))) (ty := .int) hx hb (hts _ kw_280) rfl hK hP hD hS hA (fun _ => rfl) (by decide) (by decide) (by decide) (by decide) (by decide) dX6_init_6 (fun a6_1 k6_1 H hK hP hD hS => ?_)
  have hP : va_P D vwCl [(h0, .inr (6, [.null, .null, .null, .null, .int 0, .int 0, .int 0, .int 0, .null, .int 0, .int 0, .null, .null, .int 0])), (a1, .inr (5, [.int 0, .int 0, .int 0, .int 0, .ref b0, .ref b1, .ref b2, .ref b3, .ref b4, .int 0, .int 0, .int 0, .ref b5, .ref b6, .ref b7, .int 0])), (a6_1, .inl (k6_1, 4, .inl (fun _ => 0)))] H := hP
  have hD : va_D A [(h0, .inr (6, [.null, .null, .null, .null, .int 0, .int 0, .int 0, .int 0, .null, .int 0, .int 0, .null, .null, .int 0])), (a1, .inr (5, [.int 0, .int 0, .int 0, .int 0, .ref b0, .ref b1, .ref b2, .ref b3, .ref b4, .int 0, .int 0, .int 0, .ref b5, .ref b6, .ref b7, .int 0])), (a6_1, .inl (k6_1, 4, .inl (fun _ => 0)))] := hD
  have hK : va_K D vwCl [(k6_1, .int)] s := hK
  refine W.cs (cells' := 1) (slots' := 4) rfl rfl ?_
  refine va_putF (D := D) (ci := 6) (v := .ref a6_1) (ty := .array .int) (C := RX6) (T := TX6) (N := 14) hx hb hts inX6 tyX6 tyX6_ok nmX6 hown hK hP hD hS 0 rfl rfl 3 (by decide) (hts _ kw_524) (fun _ h9 => h9) rfl hin rfl (by decide +kernel) rfl rfl (Nat.le_of_ble_eq_true rfl) dX6_init_8 (fun H locs hP hD hS => ?_)
  have hP : va_P D vwCl [(h0, .inr (6, [.null, .null, .null, .ref a6_1, .int 0, .int 0, .int 0, .int 0, .null, .int 0, .int 0, .null, .null, .int 0])), (a1, .inr (5, [.int 0, .int 0, .int 0, .int 0, .ref b0, .ref b1, .ref b2, .ref b3, .ref b4, .int 0, .int 0, .int 0, .ref b5, .ref b6, .ref b7, .int 0])), (a6_1, .inl (k6_1, 4, .inl (fun _ => 0)))] H := hP
  have hD : va_D A [(h0, .inr (6, [.null, .null, .null, .ref a6_1, .int 0, .int 0, .int 0, .int 0, .null, .int 0, .int 0, .null, .null, .int 0])), (a1, .inr (5, [.int 0, .int 0, .int 0, .int 0, .ref b0, .ref b1, .ref b2, .ref b3, .ref b4, .int 0, .int 0, .int 0, .ref b5, .ref b6, .ref b7, .int 0])), (a6_1, .inl (k6_1, 4, .inl (fun _ => 0)))] := hD
  refine lv_aload_n hx hb dX6_init_11 rfl (lv_at hl 0 rfl) ?_
  refine lv_sipush (v := 2048) hx hb dX6_init_12 (by decide) ?_
  refine va_newa (atype := .int) (a0 := (2048, .inl (fun _ => 0))) (ty := .int) hx hb (hts _ kw_280) rfl hK hP hD hS hA (fun _ => rfl) (by decide) (by decide) (by decide) (by decide) (by decide) dX6_init_15 (fun a15_2 k15_2 H hK hP hD hS => ?_)
  have hP : va_P D vwCl [(h0, .inr (6, [.null, .null, .null, .ref a6_1, .int 0, .int 0, .int 0, .int 0, .null, .int 0, .int 0, .null, .null, .int 0])), (a1, .inr (5, [.int 0, .int 0, .int 0, .int 0, .ref b0, .ref b1, .ref b2, .ref b3, .ref b4, .int 0, .int 0, .int 0, .ref b5, .ref b6, .ref b7, .int 0])), (a6_1, .inl (k6_1, 4, .inl (fun _ => 0))), (a15_2, .inl (k15_2, 2048, .inl (fun _ => 0)))] H := hP
  have hD : va_D A [(h0, .inr (6, [.null, .null, .null, .ref a6_1, .int 0, .int 0, .int 0, .int 0, .null, .int 0, .int 0, .null, .null, .int 0])), (a1, .inr (5, [.int 0, .int 0, .int 0, .int 0, .ref b0, .ref b1, .ref b2, .ref b3, .ref b4, .int 0, .int 0, .int 0, .ref b5, .ref b6, .ref b7, .int 0])), (a6_1, .inl (k6_1, 4, .inl (fun _ => 0))), (a15_2, .inl (k15_2, 2048, .inl (fun _ => 0)))] := hD
  have hK : va_K D vwCl [(k6_1, .int), (k15_2, .int)] s := hK
  refine W.cs (cells' := 2) (slots' := 2052) rfl rfl ?_
  refine va_putF (D := D) (ci := 6) (v := .ref a15_2) (ty := .array .int) (C := RX6) (T := TX6) (N := 14) hx hb hts inX6 tyX6 tyX6_ok nmX6 hown hK hP hD hS 0 rfl rfl 8 (by decide) (hts _ kw_531) (fun _ h9 => h9) rfl hin rfl (by decide +kernel) rfl rfl (Nat.le_of_ble_eq_true rfl) dX6_init_17 (fun H locs hP hD hS => ?_)
  have hP : va_P D vwCl [(h0, .inr (6, [.null, .null, .null, .ref a6_1, .int 0, .int 0, .int 0, .int 0, .ref a15_2, .int 0, .int 0, .null, .null, .int 0])), (a1, .inr (5, [.int 0, .int 0, .int 0, .int 0, .ref b0, .ref b1, .ref b2, .ref b3, .ref b4, .int 0, .int 0, .int 0, .ref b5, .ref b6, .ref b7, .int 0])), (a6_1, .inl (k6_1, 4, .inl (fun _ => 0))), (a15_2, .inl (k15_2, 2048, .inl (fun _ => 0)))] H := hP
  have hD : va_D A [(h0, .inr (6, [.null, .null, .null, .ref a6_1, .int 0, .int 0, .int 0, .int 0, .ref a15_2, .int 0, .int 0, .null, .null, .int 0])), (a1, .inr (5, [.int 0, .int 0, .int 0, .int 0, .ref b0, .ref b1, .ref b2, .ref b3, .ref b4, .int 0, .int 0, .int 0, .ref b5, .ref b6, .ref b7, .int 0])), (a6_1, .inl (k6_1, 4, .inl (fun _ => 0))), (a15_2, .inl (k15_2, 2048, .inl (fun _ => 0)))] := hD
  refine lv_aload_n hx hb dX6_init_20 rfl (lv_at hl 0 rfl) ?_
  refine lv_iconst (v := 1) hx hb dX6_init_21 (by decide) ?_
  refine va_put (D := D) (ci := 6) (v := .int 1) (ty := .int) (C := RX6) (T := TX6) (N := 14) hx hb hts inX6 tyX6 tyX6_ok nmX6 hown hK hP hD hS 0 rfl rfl 10 (by decide) (hts _ kw_533) (fun _ h9 => h9) rfl (by decide +kernel) rfl rfl (Nat.le_of_ble_eq_true rfl) dX6_init_22 (fun H locs hP hD hS => ?_)
  have hP : va_P D vwCl [(h0, .inr (6, [.null, .null, .null, .ref a6_1, .int 0, .int 0, .int 0, .int 0, .ref a15_2, .int 0, .int 1, .null, .null, .int 0])), (a1, .inr (5, [.int 0, .int 0, .int 0, .int 0, .ref b0, .ref b1, .ref b2, .ref b3, .ref b4, .int 0, .int 0, .int 0, .ref b5, .ref b6, .ref b7, .int 0])), (a6_1, .inl (k6_1, 4, .inl (fun _ => 0))), (a15_2, .inl (k15_2, 2048, .inl (fun _ => 0)))] H := hP
  have hD : va_D A [(h0, .inr (6, [.null, .null, .null, .ref a6_1, .int 0, .int 0, .int 0, .int 0, .ref a15_2, .int 0, .int 1, .null, .null, .int 0])), (a1, .inr (5, [.int 0, .int 0, .int 0, .int 0, .ref b0, .ref b1, .ref b2, .ref b3, .ref b4, .int 0, .int 0, .int 0, .ref b5, .ref b6, .ref b7, .int 0])), (a6_1, .inl (k6_1, 4, .inl (fun _ => 0))), (a15_2, .inl (k15_2, 2048, .inl (fun _ => 0)))] := hD
  refine lv_aload_n hx hb dX6_init_25 rfl (lv_at hl 0 rfl) ?_
  refine lv_iconst (v := 4) hx hb dX6_init_26 (by decide) ?_
  refine va_newa (atype := .int) (a0 := (4, .inl (fun _ => 0))) (ty := .int) hx hb (hts _ kw_280) rfl hK hP hD hS hA (fun _ => rfl) (by decide) (by decide) (by decide) (by decide) (by decide) dX6_init_27 (fun a27_3 k27_3 H hK hP hD hS => ?_)
  have hP : va_P D vwCl [(h0, .inr (6, [.null, .null, .null, .ref a6_1, .int 0, .int 0, .int 0, .int 0, .ref a15_2, .int 0, .int 1, .null, .null, .int 0])), (a1, .inr (5, [.int 0, .int 0, .int 0, .int 0, .ref b0, .ref b1, .ref b2, .ref b3, .ref b4, .int 0, .int 0, .int 0, .ref b5, .ref b6, .ref b7, .int 0])), (a6_1, .inl (k6_1, 4, .inl (fun _ => 0))), (a15_2, .inl (k15_2, 2048, .inl (fun _ => 0))), (a27_3, .inl (k27_3, 4, .inl (fun _ => 0)))] H := hP
  have hD : va_D A [(h0, .inr (6, [.null, .null, .null, .ref a6_1, .int 0, .int 0, .int 0, .int 0, .ref a15_2, .int 0, .int 1, .null, .null, .int 0])), (a1, .inr (5, [.int 0, .int 0, .int 0, .int 0, .ref b0, .ref b1, .ref b2, .ref b3, .ref b4, .int 0, .int 0, .int 0, .ref b5, .ref b6, .ref b7, .int 0])), (a6_1, .inl (k6_1, 4, .inl (fun _ => 0))), (a15_2, .inl (k15_2, 2048, .inl (fun _ => 0))), (a27_3, .inl (k27_3, 4, .inl (fun _ => 0)))] := hD
  have hK : va_K D vwCl [(k6_1, .int), (k15_2, .int), (k27_3, .int)] s := hK
  refine W.cs (cells' := 3) (slots' := 2056) rfl rfl ?_
  refine va_putF (D := D) (ci := 6) (v := .ref a27_3) (ty := .array .int) (C := RX6) (T := TX6) (N := 14) hx hb hts inX6 tyX6 tyX6_ok nmX6 hown hK hP hD hS 0 rfl rfl 11 (by decide) (hts _ kw_534) (fun _ h9 => h9) rfl hin rfl (by decide +kernel) rfl rfl (Nat.le_of_ble_eq_true rfl) dX6_init_29 (fun H locs hP hD hS => ?_)
  have hP : va_P D vwCl [(h0, .inr (6, [.null, .null, .null, .ref a6_1, .int 0, .int 0, .int 0, .int 0, .ref a15_2, .int 0, .int 1, .ref a27_3, .null, .int 0])), (a1, .inr (5, [.int 0, .int 0, .int 0, .int 0, .ref b0, .ref b1, .ref b2, .ref b3, .ref b4, .int 0, .int 0, .int 0, .ref b5, .ref b6, .ref b7, .int 0])), (a6_1, .inl (k6_1, 4, .inl (fun _ => 0))), (a15_2, .inl (k15_2, 2048, .inl (fun _ => 0))), (a27_3, .inl (k27_3, 4, .inl (fun _ => 0)))] H := hP
  have hD : va_D A [(h0, .inr (6, [.null, .null, .null, .ref a6_1, .int 0, .int 0, .int 0, .int 0, .ref a15_2, .int 0, .int 1, .ref a27_3, .null, .int 0])), (a1, .inr (5, [.int 0, .int 0, .int 0, .int 0, .ref b0, .ref b1, .ref b2, .ref b3, .ref b4, .int 0, .int 0, .int 0, .ref b5, .ref b6, .ref b7, .int 0])), (a6_1, .inl (k6_1, 4, .inl (fun _ => 0))), (a15_2, .inl (k15_2, 2048, .inl (fun _ => 0))), (a27_3, .inl (k27_3, 4, .inl (fun _ => 0)))] := hD
  refine lv_aload_n hx hb dX6_init_32 rfl (lv_at hl 0 rfl) ?_
  refine lv_bipush (v := 16) hx hb dX6_init_33 (by decide) ?_
  refine va_newa (atype := .int) (a0 := (16, .inl (fun _ => 0))) (ty := .int) hx hb (hts _ kw_280) rfl hK hP hD hS hA (fun _ => rfl) (by decide) (by decide) (by decide) (by decide) (by decide) dX6_init_35 (fun a35_4 k35_4 H hK hP hD hS => ?_)
  have hP : va_P D vwCl [(h0, .inr (6, [.null, .null, .null, .ref a6_1, .int 0, .int 0, .int 0, .int 0, .ref a15_2, .int 0, .int 1, .ref a27_3, .null, .int 0])), (a1, .inr (5, [.int 0, .int 0, .int 0, .int 0, .ref b0, .ref b1, .ref b2, .ref b3, .ref b4, .int 0, .int 0, .int 0, .ref b5, .ref b6, .ref b7, .int 0])), (a6_1, .inl (k6_1, 4, .inl (fun _ => 0))), (a15_2, .inl (k15_2, 2048, .inl (fun _ => 0))), (a27_3, .inl (k27_3, 4, .inl (fun _ => 0))), (a35_4, .inl (k35_4, 16, .inl (fun _ => 0)))] H := hP
  have hD : va_D A [(h0, .inr (6, [.null, .null, .null, .ref a6_1, .int 0, .int 0, .int 0, .int 0, .ref a15_2, .int 0, .int 1, .ref a27_3, .null, .int 0])), (a1, .inr (5, [.int 0, .int 0, .int 0, .int 0, .ref b0, .ref b1, .ref b2, .ref b3, .ref b4, .int 0, .int 0, .int 0, .ref b5, .ref b6, .ref b7, .int 0])), (a6_1, .inl (k6_1, 4, .inl (fun _ => 0))), (a15_2, .inl (k15_2, 2048, .inl (fun _ => 0))), (a27_3, .inl (k27_3, 4, .inl (fun _ => 0))), (a35_4, .inl (k35_4, 16, .inl (fun _ => 0)))] := hD
  have hK : va_K D vwCl [(k6_1, .int), (k15_2, .int), (k27_3, .int), (k35_4, .int)] s := hK
  refine W.cs (cells' := 4) (slots' := 2072) rfl rfl ?_
  refine va_putF (D := D) (ci := 6) (v := .ref a35_4) (ty := .array .int) (C := RX6) (T := TX6) (N := 14) hx hb hts inX6 tyX6 tyX6_ok nmX6 hown hK hP hD hS 0 rfl rfl 12 (by decide) (hts _ kw_535) (fun _ h9 => h9) rfl hin rfl (by decide +kernel) rfl rfl (Nat.le_of_ble_eq_true rfl) dX6_init_37 (fun H locs hP hD hS => ?_)
  have hP : va_P D vwCl [(h0, .inr (6, [.null, .null, .null, .ref a6_1, .int 0, .int 0, .int 0, .int 0, .ref a15_2, .int 0, .int 1, .ref a27_3, .ref a35_4, .int 0])), (a1, .inr (5, [.int 0, .int 0, .int 0, .int 0, .ref b0, .ref b1, .ref b2, .ref b3, .ref b4, .int 0, .int 0, .int 0, .ref b5, .ref b6, .ref b7, .int 0])), (a6_1, .inl (k6_1, 4, .inl (fun _ => 0))), (a15_2, .inl (k15_2, 2048, .inl (fun _ => 0))), (a27_3, .inl (k27_3, 4, .inl (fun _ => 0))), (a35_4, .inl (k35_4, 16, .inl (fun _ => 0)))] H := hP
  have hD : va_D A [(h0, .inr (6, [.null, .null, .null, .ref a6_1, .int 0, .int 0, .int 0, .int 0, .ref a15_2, .int 0, .int 1, .ref a27_3, .ref a35_4, .int 0])), (a1, .inr (5, [.int 0, .int 0, .int 0, .int 0, .ref b0, .ref b1, .ref b2, .ref b3, .ref b4, .int 0, .int 0, .int 0, .ref b5, .ref b6, .ref b7, .int 0])), (a6_1, .inl (k6_1, 4, .inl (fun _ => 0))), (a15_2, .inl (k15_2, 2048, .inl (fun _ => 0))), (a27_3, .inl (k27_3, 4, .inl (fun _ => 0))), (a35_4, .inl (k35_4, 16, .inl (fun _ => 0)))] := hD
  refine lv_aload_n hx hb dX6_init_40 rfl (lv_at hl 0 rfl) ?_
  refine lv_iconst (v := (-1)) hx hb dX6_init_41 (by decide) ?_
  refine va_put (D := D) (ci := 6) (v := .int (-1)) (ty := .int) (C := RX6) (T := TX6) (N := 14) hx hb hts inX6 tyX6 tyX6_ok nmX6 hown hK hP hD hS 0 rfl rfl 13 (by decide) (hts _ kw_536) (fun _ h9 => h9) rfl (by decide +kernel) rfl rfl (Nat.le_of_ble_eq_true rfl) dX6_init_42 (fun H locs hP hD hS => ?_)
  have hP : va_P D vwCl [(h0, .inr (6, [.null, .null, .null, .ref a6_1, .int 0, .int 0, .int 0, .int 0, .ref a15_2, .int 0, .int 1, .ref a27_3, .ref a35_4, .int (-1)])), (a1, .inr (5, [.int 0, .int 0, .int 0, .int 0, .ref b0, .ref b1, .ref b2, .ref b3, .ref b4, .int 0, .int 0, .int 0, .ref b5, .ref b6, .ref b7, .int 0])), (a6_1, .inl (k6_1, 4, .inl (fun _ => 0))), (a15_2, .inl (k15_2, 2048, .inl (fun _ => 0))), (a27_3, .inl (k27_3, 4, .inl (fun _ => 0))), (a35_4, .inl (k35_4, 16, .inl (fun _ => 0)))] H := hP
  have hD : va_D A [(h0, .inr (6, [.null, .null, .null, .ref a6_1, .int 0, .int 0, .int 0, .int 0, .ref a15_2, .int 0, .int 1, .ref a27_3, .ref a35_4, .int (-1)])), (a1, .inr (5, [.int 0, .int 0, .int 0, .int 0, .ref b0, .ref b1, .ref b2, .ref b3, .ref b4, .int 0, .int 0, .int 0, .ref b5, .ref b6, .ref b7, .int 0])), (a6_1, .inl (k6_1, 4, .inl (fun _ => 0))), (a15_2, .inl (k15_2, 2048, .inl (fun _ => 0))), (a27_3, .inl (k27_3, 4, .inl (fun _ => 0))), (a35_4, .inl (k35_4, 16, .inl (fun _ => 0)))] := hD
  refine lv_aload_n hx hb dX6_init_45 rfl (lv_at hl 0 rfl) ?_
  refine lv_aload_n hx hb dX6_init_46 rfl (lv_at hl 1 rfl) ?_
  refine va_putF (D := D) (ci := 6) (v := .ref a1) (ty := .object "SignalTable$Laws") (C := RX6) (T := TX6) (N := 14) hx hb hts inX6 tyX6 tyX6_ok nmX6 hown hK hP hD hS 0 rfl rfl 0 (by decide) (hts _ kw_521) (fun _ h9 => h9) rfl hin rfl (by decide +kernel) rfl rfl (Nat.le_of_ble_eq_true rfl) dX6_init_47 (fun H locs hP hD hS => ?_)
  have hP : va_P D vwCl [(h0, .inr (6, [.ref a1, .null, .null, .ref a6_1, .int 0, .int 0, .int 0, .int 0, .ref a15_2, .int 0, .int 1, .ref a27_3, .ref a35_4, .int (-1)])), (a1, .inr (5, [.int 0, .int 0, .int 0, .int 0, .ref b0, .ref b1, .ref b2, .ref b3, .ref b4, .int 0, .int 0, .int 0, .ref b5, .ref b6, .ref b7, .int 0])), (a6_1, .inl (k6_1, 4, .inl (fun _ => 0))), (a15_2, .inl (k15_2, 2048, .inl (fun _ => 0))), (a27_3, .inl (k27_3, 4, .inl (fun _ => 0))), (a35_4, .inl (k35_4, 16, .inl (fun _ => 0)))] H := hP
  have hD : va_D A [(h0, .inr (6, [.ref a1, .null, .null, .ref a6_1, .int 0, .int 0, .int 0, .int 0, .ref a15_2, .int 0, .int 1, .ref a27_3, .ref a35_4, .int (-1)])), (a1, .inr (5, [.int 0, .int 0, .int 0, .int 0, .ref b0, .ref b1, .ref b2, .ref b3, .ref b4, .int 0, .int 0, .int 0, .ref b5, .ref b6, .ref b7, .int 0])), (a6_1, .inl (k6_1, 4, .inl (fun _ => 0))), (a15_2, .inl (k15_2, 2048, .inl (fun _ => 0))), (a27_3, .inl (k27_3, 4, .inl (fun _ => 0))), (a35_4, .inl (k35_4, 16, .inl (fun _ => 0)))] := hD
  refine lv_aload_n hx hb dX6_init_50 rfl (lv_at hl 0 rfl) ?_
  refine lv_aload_n hx hb dX6_init_51 rfl (lv_at hl 1 rfl) ?_
  refine va_get (D := D) (ci := 5) (v := .ref b5) (C := RX5) (T := TX5) (N := 16) hx hb hts inX5 hown hK hP 1 rfl rfl 12 (by decide) (hts _ kw_232) (fun _ h9 => h9) rfl dX6_init_52 ?_
  refine va_putF (D := D) (ci := 6) (v := .ref b5) (ty := .array .int) (C := RX6) (T := TX6) (N := 14) hx hb hts inX6 tyX6 tyX6_ok nmX6 hown hK hP hD hS 0 rfl rfl 1 (by decide) (hts _ kw_522) (fun _ h9 => h9) rfl hin rfl (by decide +kernel) rfl rfl (Nat.le_of_ble_eq_true rfl) dX6_init_55 (fun H locs hP hD hS => ?_)
  have hP : va_P D vwCl [(h0, .inr (6, [.ref a1, .ref b5, .null, .ref a6_1, .int 0, .int 0, .int 0, .int 0, .ref a15_2, .int 0, .int 1, .ref a27_3, .ref a35_4, .int (-1)])), (a1, .inr (5, [.int 0, .int 0, .int 0, .int 0, .ref b0, .ref b1, .ref b2, .ref b3, .ref b4, .int 0, .int 0, .int 0, .ref b5, .ref b6, .ref b7, .int 0])), (a6_1, .inl (k6_1, 4, .inl (fun _ => 0))), (a15_2, .inl (k15_2, 2048, .inl (fun _ => 0))), (a27_3, .inl (k27_3, 4, .inl (fun _ => 0))), (a35_4, .inl (k35_4, 16, .inl (fun _ => 0)))] H := hP
  have hD : va_D A [(h0, .inr (6, [.ref a1, .ref b5, .null, .ref a6_1, .int 0, .int 0, .int 0, .int 0, .ref a15_2, .int 0, .int 1, .ref a27_3, .ref a35_4, .int (-1)])), (a1, .inr (5, [.int 0, .int 0, .int 0, .int 0, .ref b0, .ref b1, .ref b2, .ref b3, .ref b4, .int 0, .int 0, .int 0, .ref b5, .ref b6, .ref b7, .int 0])), (a6_1, .inl (k6_1, 4, .inl (fun _ => 0))), (a15_2, .inl (k15_2, 2048, .inl (fun _ => 0))), (a27_3, .inl (k27_3, 4, .inl (fun _ => 0))), (a35_4, .inl (k35_4, 16, .inl (fun _ => 0)))] := hD
  refine lv_aload_n hx hb dX6_init_58 rfl (lv_at hl 0 rfl) ?_
  refine lv_aload_n hx hb dX6_init_59 rfl (lv_at hl 1 rfl) ?_
  refine va_get (D := D) (ci := 5) (v := .ref b6) (C := RX5) (T := TX5) (N := 16) hx hb hts inX5 hown hK hP 1 rfl rfl 13 (by decide) (hts _ kw_237) (fun _ h9 => h9) rfl dX6_init_60 ?_
  refine va_putF (D := D) (ci := 6) (v := .ref b6) (ty := .array .int) (C := RX6) (T := TX6) (N := 14) hx hb hts inX6 tyX6 tyX6_ok nmX6 hown hK hP hD hS 0 rfl rfl 2 (by decide) (hts _ kw_523) (fun _ h9 => h9) rfl hin rfl (by decide +kernel) rfl rfl (Nat.le_of_ble_eq_true rfl) dX6_init_63 (fun H locs hP hD hS => ?_)
  have hP : va_P D vwCl [(h0, .inr (6, [.ref a1, .ref b5, .ref b6, .ref a6_1, .int 0, .int 0, .int 0, .int 0, .ref a15_2, .int 0, .int 1, .ref a27_3, .ref a35_4, .int (-1)])), (a1, .inr (5, [.int 0, .int 0, .int 0, .int 0, .ref b0, .ref b1, .ref b2, .ref b3, .ref b4, .int 0, .int 0, .int 0, .ref b5, .ref b6, .ref b7, .int 0])), (a6_1, .inl (k6_1, 4, .inl (fun _ => 0))), (a15_2, .inl (k15_2, 2048, .inl (fun _ => 0))), (a27_3, .inl (k27_3, 4, .inl (fun _ => 0))), (a35_4, .inl (k35_4, 16, .inl (fun _ => 0)))] H := hP
  have hD : va_D A [(h0, .inr (6, [.ref a1, .ref b5, .ref b6, .ref a6_1, .int 0, .int 0, .int 0, .int 0, .ref a15_2, .int 0, .int 1, .ref a27_3, .ref a35_4, .int (-1)])), (a1, .inr (5, [.int 0, .int 0, .int 0, .int 0, .ref b0, .ref b1, .ref b2, .ref b3, .ref b4, .int 0, .int 0, .int 0, .ref b5, .ref b6, .ref b7, .int 0])), (a6_1, .inl (k6_1, 4, .inl (fun _ => 0))), (a15_2, .inl (k15_2, 2048, .inl (fun _ => 0))), (a27_3, .inl (k27_3, 4, .inl (fun _ => 0))), (a35_4, .inl (k35_4, 16, .inl (fun _ => 0)))] := hD
  exact wr_v (q := (fun i => match i with | 0 => a6_1 | 1 => a15_2 | 2 => a27_3 | 3 => a35_4 | _ => 0)) (k := (fun i => match i with | 2 => k27_3 | _ => k27_3)) (g := (fun _ => fun _ => 0)) (gl := (fun _ => fun _ => 0)) hx hb hr hlocks hS (hP.sub [0, 4, 1] rfl) (hK.sub [2] rfl) (hD.sub [0, 4, 1] (by decide) rfl) dX6_init_66
set_option maxHeartbeats 4000000 in
set_option maxRecDepth 100000 in
theorem wX1_init {l : Launch} {D : va_G} {sz : Nat} (h0 : Nat) (a1 : Nat) (a2 : Nat) : Wv l yX1_init cX1_init 3 1 13 6096 D [(h0, .inr (1, [.null, .null, .null, .null, .null, .null, .null, .int 0, .int 0, .int 0, .int 0, .int 0, .int 0]))] [] [.ref h0, .ref a1, .ref a2] sz (fun U => AOA .int U ∧ AOA .long U) (fun q k g gl => []) (fun k => []) := by
  refine Wv.of (by decide) (Nat.le_of_ble_eq_true rfl) ?_
  intro p e s m below meth c ls A hx hb hr hml hown hts hlocks hin hP hK hD hA hS hE hAe hl
  have hown : s.vm.findClass "SignalTable$Deals" = some m.cls := hown
  have hin : meth.name = "<init>" := hin
  skip
  have hl : lv_has ls 3 [(0, .ref h0), (1, .ref a1), (2, .ref a2)] := hl
  refine lv_aload_n hx hb dX1_init_0 rfl (lv_at hl 0 rfl) ?_
  refine W.objInit hx hb hown (hts _ kw_571) (hts _ kw_180) (hts _ kw_181) rfl (by rw [hml]; exact hl.1) rfl dX1_init_1 (by decide) (Nat.le_of_ble_eq_true rfl) ?_
  refine lv_aload_n hx hb dX1_init_4 rfl (lv_at hl 0 rfl) ?_
  refine lv_iconst (v := 4) hx hb dX1_init_5 (by decide) ?_
  refine lv_sipush (v := 495) hx hb dX1_init_6 (by decide) ?_
  refine z_mna (ty := .int) (N' := 4) (K' := 495) hx hb hown (hts _ kw_572) hE.1 (hts _ kw_280) hP hS (by decide) (by decide) rfl rfl (by decide) (by decide) (by decide) rfl rfl (by decide) (by decide) dX1_init_9 (fun a9_1 H hP hS => ?_)
  have hP : va_P D vwCl [(h0, .inr (1, [.null, .null, .null, .null, .null, .null, .null, .int 0, .int 0, .int 0, .int 0, .int 0, .int 0]))] H := hP
  have hD : va_D A [(h0, .inr (1, [.null, .null, .null, .null, .null, .null, .null, .int 0, .int 0, .int 0, .int 0, .int 0, .int 0]))] := hD
  refine W.cs (cells' := 5) (slots' := 1984) rfl rfl ?_
  refine va_putF (D := D) (ci := 1) (v := .ref a9_1) (ty := .array (.array .int)) (C := RX1) (T := TX1) (N := 13) hx hb hts inX1 tyX1 tyX1_ok nmX1 hown hK hP hD hS 0 rfl rfl 2 (by decide) (hts _ kw_578) (fun _ h9 => h9) rfl hin rfl (by decide +kernel) rfl rfl (Nat.le_of_ble_eq_true rfl) dX1_init_13 (fun H locs hP hD hS => ?_)
  have hP : va_P D vwCl [(h0, .inr (1, [.null, .null, .ref a9_1, .null, .null, .null, .null, .int 0, .int 0, .int 0, .int 0, .int 0, .int 0]))] H := hP
  have hD : va_D A [(h0, .inr (1, [.null, .null, .ref a9_1, .null, .null, .null, .null, .int 0, .int 0, .int 0, .int 0, .int 0, .int 0]))] := hD
  refine lv_aload_n hx hb dX1_init_16 rfl (lv_at hl 0 rfl) ?_
  refine lv_iconst (v := 4) hx hb dX1_init_17 (by decide) ?_
  refine va_newa (atype := .int) (a0 := (4, .inl (fun _ => 0))) (ty := .int) hx hb (hts _ kw_280) rfl hK hP hD hS hA (fun _ => rfl) (by decide) (by decide) (by decide) (by decide) (by decide) dX1_init_18 (fun a18_2 k18_2 H hK hP hD hS => ?_)
  have hP : va_P D vwCl [(h0, .inr (1, [.null, .null, .ref a9_1, .null, .null, .null, .null, .int 0, .int 0, .int 0, .int 0, .int 0, .int 0])), (a18_2, .inl (k18_2, 4, .inl (fun _ => 0)))] H := hP
  have hD : va_D A [(h0, .inr (1, [.null, .null, .ref a9_1, .null, .null, .null, .null, .int 0, .int 0, .int 0, .int 0, .int 0, .int 0])), (a18_2, .inl (k18_2, 4, .inl (fun _ => 0)))] := hD
  have hK : va_K D vwCl [(k18_2, .int)] s := hK
  refine W.cs (cells' := 6) (slots' := 1988) rfl rfl ?_
  refine va_putF (D := D) (ci := 1) (v := .ref a18_2) (ty := .array .int) (C := RX1) (T := TX1) (N := 13) hx hb hts inX1 tyX1 tyX1_ok nmX1 hown hK hP hD hS 0 rfl rfl 3 (by decide) (hts _ kw_579) (fun _ h9 => h9) rfl hin rfl (by decide +kernel) rfl rfl (Nat.le_of_ble_eq_true rfl) dX1_init_20 (fun H locs hP hD hS => ?_)
  have hP : va_P D vwCl [(h0, .inr (1, [.null, .null, .ref a9_1, .ref a18_2, .null, .null, .null, .int 0, .int 0, .int 0, .int 0, .int 0, .int 0])), (a18_2, .inl (k18_2, 4, .inl (fun _ => 0)))] H := hP
  have hD : va_D A [(h0, .inr (1, [.null, .null, .ref a9_1, .ref a18_2, .null, .null, .null, .int 0, .int 0, .int 0, .int 0, .int 0, .int 0])), (a18_2, .inl (k18_2, 4, .inl (fun _ => 0)))] := hD
  refine lv_aload_n hx hb dX1_init_23 rfl (lv_at hl 0 rfl) ?_
  refine lv_iconst (v := 4) hx hb dX1_init_24 (by decide) ?_
  refine lv_sipush (v := 1024) hx hb dX1_init_25 (by decide) ?_
  refine z_mna (ty := .long) (N' := 4) (K' := 1024) hx hb hown (hts _ kw_574) hE.2 (hts _ kw_378) hP hS (by decide) (by decide) rfl rfl (by decide) (by decide) (by decide) rfl rfl (by decide) (by decide) dX1_init_28 (fun a28_3 H hP hS => ?_)
  have hP : va_P D vwCl [(h0, .inr (1, [.null, .null, .ref a9_1, .ref a18_2, .null, .null, .null, .int 0, .int 0, .int 0, .int 0, .int 0, .int 0])), (a18_2, .inl (k18_2, 4, .inl (fun _ => 0)))] H := hP
  have hD : va_D A [(h0, .inr (1, [.null, .null, .ref a9_1, .ref a18_2, .null, .null, .null, .int 0, .int 0, .int 0, .int 0, .int 0, .int 0])), (a18_2, .inl (k18_2, 4, .inl (fun _ => 0)))] := hD
  refine W.cs (cells' := 11) (slots' := 6088) rfl rfl ?_
  refine va_putF (D := D) (ci := 1) (v := .ref a28_3) (ty := .array (.array .long)) (C := RX1) (T := TX1) (N := 13) hx hb hts inX1 tyX1 tyX1_ok nmX1 hown hK hP hD hS 0 rfl rfl 4 (by decide) (hts _ kw_580) (fun _ h9 => h9) rfl hin rfl (by decide +kernel) rfl rfl (Nat.le_of_ble_eq_true rfl) dX1_init_32 (fun H locs hP hD hS => ?_)
  have hP : va_P D vwCl [(h0, .inr (1, [.null, .null, .ref a9_1, .ref a18_2, .ref a28_3, .null, .null, .int 0, .int 0, .int 0, .int 0, .int 0, .int 0])), (a18_2, .inl (k18_2, 4, .inl (fun _ => 0)))] H := hP
  have hD : va_D A [(h0, .inr (1, [.null, .null, .ref a9_1, .ref a18_2, .ref a28_3, .null, .null, .int 0, .int 0, .int 0, .int 0, .int 0, .int 0])), (a18_2, .inl (k18_2, 4, .inl (fun _ => 0)))] := hD
  refine lv_aload_n hx hb dX1_init_35 rfl (lv_at hl 0 rfl) ?_
  refine lv_iconst (v := 4) hx hb dX1_init_36 (by decide) ?_
  refine va_newa (atype := .int) (a0 := (4, .inl (fun _ => 0))) (ty := .int) hx hb (hts _ kw_280) rfl hK hP hD hS hA (fun _ => rfl) (by decide) (by decide) (by decide) (by decide) (by decide) dX1_init_37 (fun a37_4 k37_4 H hK hP hD hS => ?_)
  have hP : va_P D vwCl [(h0, .inr (1, [.null, .null, .ref a9_1, .ref a18_2, .ref a28_3, .null, .null, .int 0, .int 0, .int 0, .int 0, .int 0, .int 0])), (a18_2, .inl (k18_2, 4, .inl (fun _ => 0))), (a37_4, .inl (k37_4, 4, .inl (fun _ => 0)))] H := hP
  have hD : va_D A [(h0, .inr (1, [.null, .null, .ref a9_1, .ref a18_2, .ref a28_3, .null, .null, .int 0, .int 0, .int 0, .int 0, .int 0, .int 0])), (a18_2, .inl (k18_2, 4, .inl (fun _ => 0))), (a37_4, .inl (k37_4, 4, .inl (fun _ => 0)))] := hD
  have hK : va_K D vwCl [(k18_2, .int), (k37_4, .int)] s := hK
  refine W.cs (cells' := 12) (slots' := 6092) rfl rfl ?_
  refine va_putF (D := D) (ci := 1) (v := .ref a37_4) (ty := .array .int) (C := RX1) (T := TX1) (N := 13) hx hb hts inX1 tyX1 tyX1_ok nmX1 hown hK hP hD hS 0 rfl rfl 5 (by decide) (hts _ kw_581) (fun _ h9 => h9) rfl hin rfl (by decide +kernel) rfl rfl (Nat.le_of_ble_eq_true rfl) dX1_init_39 (fun H locs hP hD hS => ?_)
  have hP : va_P D vwCl [(h0, .inr (1, [.null, .null, .ref a9_1, .ref a18_2, .ref a28_3, .ref a37_4, .null, .int 0, .int 0, .int 0, .int 0, .int 0, .int 0])), (a18_2, .inl (k18_2, 4, .inl (fun _ => 0))), (a37_4, .inl (k37_4, 4, .inl (fun _ => 0)))] H := hP
  have hD : va_D A [(h0, .inr (1, [.null, .null, .ref a9_1, .ref a18_2, .ref a28_3, .ref a37_4, .null, .int 0, .int 0, .int 0, .int 0, .int 0, .int 0])), (a18_2, .inl (k18_2, 4, .inl (fun _ => 0))), (a37_4, .inl (k37_4, 4, .inl (fun _ => 0)))] := hD
  refine lv_aload_n hx hb dX1_init_42 rfl (lv_at hl 0 rfl) ?_
  refine lv_iconst (v := 4) hx hb dX1_init_43 (by decide) ?_
  refine va_newa (atype := .int) (a0 := (4, .inl (fun _ => 0))) (ty := .int) hx hb (hts _ kw_280) rfl hK hP hD hS hA (fun _ => rfl) (by decide) (by decide) (by decide) (by decide) (by decide) dX1_init_44 (fun a44_5 k44_5 H hK hP hD hS => ?_)
  have hP : va_P D vwCl [(h0, .inr (1, [.null, .null, .ref a9_1, .ref a18_2, .ref a28_3, .ref a37_4, .null, .int 0, .int 0, .int 0, .int 0, .int 0, .int 0])), (a18_2, .inl (k18_2, 4, .inl (fun _ => 0))), (a37_4, .inl (k37_4, 4, .inl (fun _ => 0))), (a44_5, .inl (k44_5, 4, .inl (fun _ => 0)))] H := hP
  have hD : va_D A [(h0, .inr (1, [.null, .null, .ref a9_1, .ref a18_2, .ref a28_3, .ref a37_4, .null, .int 0, .int 0, .int 0, .int 0, .int 0, .int 0])), (a18_2, .inl (k18_2, 4, .inl (fun _ => 0))), (a37_4, .inl (k37_4, 4, .inl (fun _ => 0))), (a44_5, .inl (k44_5, 4, .inl (fun _ => 0)))] := hD
  have hK : va_K D vwCl [(k18_2, .int), (k37_4, .int), (k44_5, .int)] s := hK
  refine W.cs (cells' := 13) (slots' := 6096) rfl rfl ?_
  refine va_putF (D := D) (ci := 1) (v := .ref a44_5) (ty := .array .int) (C := RX1) (T := TX1) (N := 13) hx hb hts inX1 tyX1 tyX1_ok nmX1 hown hK hP hD hS 0 rfl rfl 6 (by decide) (hts _ kw_582) (fun _ h9 => h9) rfl hin rfl (by decide +kernel) rfl rfl (Nat.le_of_ble_eq_true rfl) dX1_init_46 (fun H locs hP hD hS => ?_)
  have hP : va_P D vwCl [(h0, .inr (1, [.null, .null, .ref a9_1, .ref a18_2, .ref a28_3, .ref a37_4, .ref a44_5, .int 0, .int 0, .int 0, .int 0, .int 0, .int 0])), (a18_2, .inl (k18_2, 4, .inl (fun _ => 0))), (a37_4, .inl (k37_4, 4, .inl (fun _ => 0))), (a44_5, .inl (k44_5, 4, .inl (fun _ => 0)))] H := hP
  have hD : va_D A [(h0, .inr (1, [.null, .null, .ref a9_1, .ref a18_2, .ref a28_3, .ref a37_4, .ref a44_5, .int 0, .int 0, .int 0, .int 0, .int 0, .int 0])), (a18_2, .inl (k18_2, 4, .inl (fun _ => 0))), (a37_4, .inl (k37_4, 4, .inl (fun _ => 0))), (a44_5, .inl (k44_5, 4, .inl (fun _ => 0)))] := hD
  refine lv_aload_n hx hb dX1_init_49 rfl (lv_at hl 0 rfl) ?_
  refine lv_aload_n hx hb dX1_init_50 rfl (lv_at hl 1 rfl) ?_
  refine va_putF (D := D) (ci := 1) (v := .ref a1) (ty := .object "SignalTable$Laws") (C := RX1) (T := TX1) (N := 13) hx hb hts inX1 tyX1 tyX1_ok nmX1 hown hK hP hD hS 0 rfl rfl 0 (by decide) (hts _ kw_576) (fun _ h9 => h9) rfl hin rfl (by decide +kernel) rfl rfl (Nat.le_of_ble_eq_true rfl) dX1_init_51 (fun H locs hP hD hS => ?_)
  have hP : va_P D vwCl [(h0, .inr (1, [.ref a1, .null, .ref a9_1, .ref a18_2, .ref a28_3, .ref a37_4, .ref a44_5, .int 0, .int 0, .int 0, .int 0, .int 0, .int 0])), (a18_2, .inl (k18_2, 4, .inl (fun _ => 0))), (a37_4, .inl (k37_4, 4, .inl (fun _ => 0))), (a44_5, .inl (k44_5, 4, .inl (fun _ => 0)))] H := hP
  have hD : va_D A [(h0, .inr (1, [.ref a1, .null, .ref a9_1, .ref a18_2, .ref a28_3, .ref a37_4, .ref a44_5, .int 0, .int 0, .int 0, .int 0, .int 0, .int 0])), (a18_2, .inl (k18_2, 4, .inl (fun _ => 0))), (a37_4, .inl (k37_4, 4, .inl (fun _ => 0))), (a44_5, .inl (k44_5, 4, .inl (fun _ => 0)))] := hD
  refine lv_aload_n hx hb dX1_init_54 rfl (lv_at hl 0 rfl) ?_
  refine lv_aload_n hx hb dX1_init_55 rfl (lv_at hl 2 rfl) ?_
  refine va_putF (D := D) (ci := 1) (v := .ref a2) (ty := .object "SignalTable$Judge") (C := RX1) (T := TX1) (N := 13) hx hb hts inX1 tyX1 tyX1_ok nmX1 hown hK hP hD hS 0 rfl rfl 1 (by decide) (hts _ kw_577) (fun _ h9 => h9) rfl hin rfl (by decide +kernel) rfl rfl (Nat.le_of_ble_eq_true rfl) dX1_init_56 (fun H locs hP hD hS => ?_)
  have hP : va_P D vwCl [(h0, .inr (1, [.ref a1, .ref a2, .ref a9_1, .ref a18_2, .ref a28_3, .ref a37_4, .ref a44_5, .int 0, .int 0, .int 0, .int 0, .int 0, .int 0])), (a18_2, .inl (k18_2, 4, .inl (fun _ => 0))), (a37_4, .inl (k37_4, 4, .inl (fun _ => 0))), (a44_5, .inl (k44_5, 4, .inl (fun _ => 0)))] H := hP
  have hD : va_D A [(h0, .inr (1, [.ref a1, .ref a2, .ref a9_1, .ref a18_2, .ref a28_3, .ref a37_4, .ref a44_5, .int 0, .int 0, .int 0, .int 0, .int 0, .int 0])), (a18_2, .inl (k18_2, 4, .inl (fun _ => 0))), (a37_4, .inl (k37_4, 4, .inl (fun _ => 0))), (a44_5, .inl (k44_5, 4, .inl (fun _ => 0)))] := hD
  exact wr_v (q := (fun _ => 0)) (k := (fun _ => 0)) (g := (fun _ => fun _ => 0)) (gl := (fun _ => fun _ => 0)) hx hb hr hlocks hS (hP.sub [] rfl) (hK.sub [] rfl) (hD.sub [] (by decide) rfl) dX1_init_59
set_option maxHeartbeats 4000000 in
set_option maxRecDepth 100000 in
theorem wX10_init {l : Launch} {D : va_G} {sz : Nat} (h0 : Nat) (a1 : Nat) (a2 : Nat) : Wv l yX10_init cX10_init 3 1 1 80 D [(h0, .inr (10, [.null, .null, .null, .int 0, .null, .int 0, .int 0]))] [] [.ref h0, .ref a1, .ref a2] sz (fun _ => True) (fun q k g gl => [(h0, .inr (10, [.ref a1, .ref a2, .ref (q 0), .int 0, .null, .int 0, .int 0]))]) (fun k => []) := by
  refine Wv.of (by decide) (Nat.le_of_ble_eq_true rfl) ?_
  intro p e s m below meth c ls A hx hb hr hml hown hts hlocks hin hP hK hD hA hS hE hAe hl
  have hown : s.vm.findClass "SignalTable$Weigher" = some m.cls := hown
  have hin : meth.name = "<init>" := hin
  skip
  have hl : lv_has ls 3 [(0, .ref h0), (1, .ref a1), (2, .ref a2)] := hl
  refine lv_aload_n hx hb dX10_init_0 rfl (lv_at hl 0 rfl) ?_
  refine W.objInit hx hb hown (hts _ kw_622) (hts _ kw_180) (hts _ kw_181) rfl (by rw [hml]; exact hl.1) rfl dX10_init_1 (by decide) (Nat.le_of_ble_eq_true rfl) ?_
  refine lv_aload_n hx hb dX10_init_4 rfl (lv_at hl 0 rfl) ?_
  refine lv_bipush (v := 80) hx hb dX10_init_5 (by decide) ?_
  refine va_newa (atype := .int) (a0 := (80, .inl (fun _ => 0))) (ty := .int) hx hb (hts _ kw_280) rfl hK hP hD hS hA (fun _ => rfl) (by decide) (by decide) (by decide) (by decide) (by decide) dX10_init_7 (fun a7_1 k7_1 H hK hP hD hS => ?_)
  have hP : va_P D vwCl [(h0, .inr (10, [.null, .null, .null, .int 0, .null, .int 0, .int 0])), (a7_1, .inl (k7_1, 80, .inl (fun _ => 0)))] H := hP
  have hD : va_D A [(h0, .inr (10, [.null, .null, .null, .int 0, .null, .int 0, .int 0])), (a7_1, .inl (k7_1, 80, .inl (fun _ => 0)))] := hD
  have hK : va_K D vwCl [(k7_1, .int)] s := hK
  refine W.cs (cells' := 1) (slots' := 80) rfl rfl ?_
  refine va_putF (D := D) (ci := 10) (v := .ref a7_1) (ty := .array .int) (C := RX10) (T := TX10) (N := 7) hx hb hts inX10 tyX10 tyX10_ok nmX10 hown hK hP hD hS 0 rfl rfl 2 (by decide) (hts _ kw_625) (fun _ h9 => h9) rfl hin rfl (by decide +kernel) rfl rfl (Nat.le_of_ble_eq_true rfl) dX10_init_9 (fun H locs hP hD hS => ?_)
  have hP : va_P D vwCl [(h0, .inr (10, [.null, .null, .ref a7_1, .int 0, .null, .int 0, .int 0])), (a7_1, .inl (k7_1, 80, .inl (fun _ => 0)))] H := hP
  have hD : va_D A [(h0, .inr (10, [.null, .null, .ref a7_1, .int 0, .null, .int 0, .int 0])), (a7_1, .inl (k7_1, 80, .inl (fun _ => 0)))] := hD
  refine lv_aload_n hx hb dX10_init_12 rfl (lv_at hl 0 rfl) ?_
  refine lv_aload_n hx hb dX10_init_13 rfl (lv_at hl 1 rfl) ?_
  refine va_putF (D := D) (ci := 10) (v := .ref a1) (ty := .object "SignalTable$Deals") (C := RX10) (T := TX10) (N := 7) hx hb hts inX10 tyX10 tyX10_ok nmX10 hown hK hP hD hS 0 rfl rfl 0 (by decide) (hts _ kw_623) (fun _ h9 => h9) rfl hin rfl (by decide +kernel) rfl rfl (Nat.le_of_ble_eq_true rfl) dX10_init_14 (fun H locs hP hD hS => ?_)
  have hP : va_P D vwCl [(h0, .inr (10, [.ref a1, .null, .ref a7_1, .int 0, .null, .int 0, .int 0])), (a7_1, .inl (k7_1, 80, .inl (fun _ => 0)))] H := hP
  have hD : va_D A [(h0, .inr (10, [.ref a1, .null, .ref a7_1, .int 0, .null, .int 0, .int 0])), (a7_1, .inl (k7_1, 80, .inl (fun _ => 0)))] := hD
  refine lv_aload_n hx hb dX10_init_17 rfl (lv_at hl 0 rfl) ?_
  refine lv_aload_n hx hb dX10_init_18 rfl (lv_at hl 2 rfl) ?_
  refine va_putF (D := D) (ci := 10) (v := .ref a2) (ty := .object "SignalTable$Open") (C := RX10) (T := TX10) (N := 7) hx hb hts inX10 tyX10 tyX10_ok nmX10 hown hK hP hD hS 0 rfl rfl 1 (by decide) (hts _ kw_624) (fun _ h9 => h9) rfl hin rfl (by decide +kernel) rfl rfl (Nat.le_of_ble_eq_true rfl) dX10_init_19 (fun H locs hP hD hS => ?_)
  have hP : va_P D vwCl [(h0, .inr (10, [.ref a1, .ref a2, .ref a7_1, .int 0, .null, .int 0, .int 0])), (a7_1, .inl (k7_1, 80, .inl (fun _ => 0)))] H := hP
  have hD : va_D A [(h0, .inr (10, [.ref a1, .ref a2, .ref a7_1, .int 0, .null, .int 0, .int 0])), (a7_1, .inl (k7_1, 80, .inl (fun _ => 0)))] := hD
  exact wr_v (q := (fun i => match i with | 0 => a7_1 | _ => 0)) (k := (fun _ => 0)) (g := (fun _ => fun _ => 0)) (gl := (fun _ => fun _ => 0)) hx hb hr hlocks hS (hP.sub [0] rfl) (hK.sub [] rfl) (hD.sub [0] (by decide) rfl) dX10_init_22
set_option maxHeartbeats 4000000 in
set_option maxRecDepth 100000 in
theorem wX2_init {l : Launch} {D : va_G} {sz : Nat} (h0 : Nat) (a1 : Nat) (a2 : Nat) : Wv l yX2_init cX2_init 3 1 1 1024 D [(h0, .inr (2, [.null, .null, .null]))] [] [.ref h0, .ref a1, .ref a2] sz (fun _ => True) (fun q k g gl => [(h0, .inr (2, [.ref a1, .ref a2, .ref (q 0)])), ((q 0), .inl ((k 0), 1024, .inl (fun _ => 0)))]) (fun k => [((k 0), .int)]) := by
  refine Wv.of (by decide) (Nat.le_of_ble_eq_true rfl) ?_
  intro p e s m below meth c ls A hx hb hr hml hown hts hlocks hin hP hK hD hA hS hE hAe hl
  have hown : s.vm.findClass "SignalTable$Gains" = some m.cls := hown
  have hin : meth.name = "<init>" := hin
  skip
  have hl : lv_has ls 3 [(0, .ref h0), (1, .ref a1), (2, .ref a2)] := hl
  refine lv_aload_n hx hb dX2_init_0 rfl (lv_at hl 0 rfl) ?_
  refine W.objInit hx hb hown (hts _ kw_650) (hts _ kw_180) (hts _ kw_181) rfl (by rw [hml]; exact hl.1) rfl dX2_init_1 (by decide) (Nat.le_of_ble_eq_true rfl) ?_
  refine lv_aload_n hx hb dX2_init_4 rfl (lv_at hl 0 rfl) ?_
  refine lv_sipush (v := 1024) hx hb dX2_init_5 (by decide) ?_
  refine va_newa (atype := .int) (a0 := (1024, .inl (fun _ => 0))) (ty := .int) hx hb (hts _ kw_280) rfl hK hP hD hS hA (fun _ => rfl) (by decide) (by decide) (by decide) (by decide) (by decide) dX2_init_8 (fun a8_1 k8_1 H hK hP hD hS => ?_)
  have hP : va_P D vwCl [(h0, .inr (2, [.null, .null, .null])), (a8_1, .inl (k8_1, 1024, .inl (fun _ => 0)))] H := hP
  have hD : va_D A [(h0, .inr (2, [.null, .null, .null])), (a8_1, .inl (k8_1, 1024, .inl (fun _ => 0)))] := hD
  have hK : va_K D vwCl [(k8_1, .int)] s := hK
  refine W.cs (cells' := 1) (slots' := 1024) rfl rfl ?_
  refine va_putF (D := D) (ci := 2) (v := .ref a8_1) (ty := .array .int) (C := RX2) (T := TX2) (N := 3) hx hb hts inX2 tyX2 tyX2_ok nmX2 hown hK hP hD hS 0 rfl rfl 2 (by decide) (hts _ kw_653) (fun _ h9 => h9) rfl hin rfl (by decide +kernel) rfl rfl (Nat.le_of_ble_eq_true rfl) dX2_init_10 (fun H locs hP hD hS => ?_)
  have hP : va_P D vwCl [(h0, .inr (2, [.null, .null, .ref a8_1])), (a8_1, .inl (k8_1, 1024, .inl (fun _ => 0)))] H := hP
  have hD : va_D A [(h0, .inr (2, [.null, .null, .ref a8_1])), (a8_1, .inl (k8_1, 1024, .inl (fun _ => 0)))] := hD
  refine lv_aload_n hx hb dX2_init_13 rfl (lv_at hl 0 rfl) ?_
  refine lv_aload_n hx hb dX2_init_14 rfl (lv_at hl 1 rfl) ?_
  refine va_putF (D := D) (ci := 2) (v := .ref a1) (ty := .object "SignalTable$Game") (C := RX2) (T := TX2) (N := 3) hx hb hts inX2 tyX2 tyX2_ok nmX2 hown hK hP hD hS 0 rfl rfl 0 (by decide) (hts _ kw_651) (fun _ h9 => h9) rfl hin rfl (by decide +kernel) rfl rfl (Nat.le_of_ble_eq_true rfl) dX2_init_15 (fun H locs hP hD hS => ?_)
  have hP : va_P D vwCl [(h0, .inr (2, [.ref a1, .null, .ref a8_1])), (a8_1, .inl (k8_1, 1024, .inl (fun _ => 0)))] H := hP
  have hD : va_D A [(h0, .inr (2, [.ref a1, .null, .ref a8_1])), (a8_1, .inl (k8_1, 1024, .inl (fun _ => 0)))] := hD
  refine lv_aload_n hx hb dX2_init_18 rfl (lv_at hl 0 rfl) ?_
  refine lv_aload_n hx hb dX2_init_19 rfl (lv_at hl 2 rfl) ?_
  refine va_putF (D := D) (ci := 2) (v := .ref a2) (ty := .object "SignalTable$Weigher") (C := RX2) (T := TX2) (N := 3) hx hb hts inX2 tyX2 tyX2_ok nmX2 hown hK hP hD hS 0 rfl rfl 1 (by decide) (hts _ kw_652) (fun _ h9 => h9) rfl hin rfl (by decide +kernel) rfl rfl (Nat.le_of_ble_eq_true rfl) dX2_init_20 (fun H locs hP hD hS => ?_)
  have hP : va_P D vwCl [(h0, .inr (2, [.ref a1, .ref a2, .ref a8_1])), (a8_1, .inl (k8_1, 1024, .inl (fun _ => 0)))] H := hP
  have hD : va_D A [(h0, .inr (2, [.ref a1, .ref a2, .ref a8_1])), (a8_1, .inl (k8_1, 1024, .inl (fun _ => 0)))] := hD
  exact wr_v (q := (fun i => match i with | 0 => a8_1 | _ => 0)) (k := (fun i => match i with | 0 => k8_1 | _ => k8_1)) (g := (fun _ => fun _ => 0)) (gl := (fun _ => fun _ => 0)) hx hb hr hlocks hS (hP.sub [0, 1] rfl) (hK.sub [0] rfl) (hD.sub [0, 1] (by decide) rfl) dX2_init_23
set_option maxHeartbeats 4000000 in
set_option maxRecDepth 100000 in
theorem wX0_init {l : Launch} {D : va_G} {sz : Nat} (h0 : Nat) : Wv l yX0_init cX0_init 1 1 2 96 D [(h0, .inr (0, [.null, .null, .int 0]))] [] [.ref h0] sz (fun _ => True) (fun q k g gl => [(h0, .inr (0, [.ref (q 0), .ref (q 1), .int 0]))]) (fun k => []) := by
  refine Wv.of (by decide) (Nat.le_of_ble_eq_true rfl) ?_
  intro p e s m below meth c ls A hx hb hr hml hown hts hlocks hin hP hK hD hA hS hE hAe hl
  have hown : s.vm.findClass "SignalTable$Books" = some m.cls := hown
  have hin : meth.name = "<init>" := hin
  skip
  have hl : lv_has ls 1 [(0, .ref h0)] := hl
  refine lv_aload_n hx hb dX0_init_0 rfl (lv_at hl 0 rfl) ?_
  refine W.objInit hx hb hown (hts _ kw_666) (hts _ kw_180) (hts _ kw_181) rfl (by rw [hml]; exact hl.1) rfl dX0_init_1 (by decide) (Nat.le_of_ble_eq_true rfl) ?_
  refine lv_aload_n hx hb dX0_init_4 rfl (lv_at hl 0 rfl) ?_
  refine lv_bipush (v := 48) hx hb dX0_init_5 (by decide) ?_
  refine va_newa (atype := .int) (a0 := (48, .inl (fun _ => 0))) (ty := .int) hx hb (hts _ kw_280) rfl hK hP hD hS hA (fun _ => rfl) (by decide) (by decide) (by decide) (by decide) (by decide) dX0_init_7 (fun a7_1 k7_1 H hK hP hD hS => ?_)
  have hP : va_P D vwCl [(h0, .inr (0, [.null, .null, .int 0])), (a7_1, .inl (k7_1, 48, .inl (fun _ => 0)))] H := hP
  have hD : va_D A [(h0, .inr (0, [.null, .null, .int 0])), (a7_1, .inl (k7_1, 48, .inl (fun _ => 0)))] := hD
  have hK : va_K D vwCl [(k7_1, .int)] s := hK
  refine W.cs (cells' := 1) (slots' := 48) rfl rfl ?_
  refine va_putF (D := D) (ci := 0) (v := .ref a7_1) (ty := .array .int) (C := RX0) (T := TX0) (N := 3) hx hb hts inX0 tyX0 tyX0_ok nmX0 hown hK hP hD hS 0 rfl rfl 0 (by decide) (hts _ kw_667) (fun _ h9 => h9) rfl hin rfl (by decide +kernel) rfl rfl (Nat.le_of_ble_eq_true rfl) dX0_init_9 (fun H locs hP hD hS => ?_)
  have hP : va_P D vwCl [(h0, .inr (0, [.ref a7_1, .null, .int 0])), (a7_1, .inl (k7_1, 48, .inl (fun _ => 0)))] H := hP
  have hD : va_D A [(h0, .inr (0, [.ref a7_1, .null, .int 0])), (a7_1, .inl (k7_1, 48, .inl (fun _ => 0)))] := hD
  refine lv_aload_n hx hb dX0_init_12 rfl (lv_at hl 0 rfl) ?_
  refine lv_bipush (v := 48) hx hb dX0_init_13 (by decide) ?_
  refine va_newa (atype := .int) (a0 := (48, .inl (fun _ => 0))) (ty := .int) hx hb (hts _ kw_280) rfl hK hP hD hS hA (fun _ => rfl) (by decide) (by decide) (by decide) (by decide) (by decide) dX0_init_15 (fun a15_2 k15_2 H hK hP hD hS => ?_)
  have hP : va_P D vwCl [(h0, .inr (0, [.ref a7_1, .null, .int 0])), (a7_1, .inl (k7_1, 48, .inl (fun _ => 0))), (a15_2, .inl (k15_2, 48, .inl (fun _ => 0)))] H := hP
  have hD : va_D A [(h0, .inr (0, [.ref a7_1, .null, .int 0])), (a7_1, .inl (k7_1, 48, .inl (fun _ => 0))), (a15_2, .inl (k15_2, 48, .inl (fun _ => 0)))] := hD
  have hK : va_K D vwCl [(k7_1, .int), (k15_2, .int)] s := hK
  refine W.cs (cells' := 2) (slots' := 96) rfl rfl ?_
  refine va_putF (D := D) (ci := 0) (v := .ref a15_2) (ty := .array .int) (C := RX0) (T := TX0) (N := 3) hx hb hts inX0 tyX0 tyX0_ok nmX0 hown hK hP hD hS 0 rfl rfl 1 (by decide) (hts _ kw_668) (fun _ h9 => h9) rfl hin rfl (by decide +kernel) rfl rfl (Nat.le_of_ble_eq_true rfl) dX0_init_17 (fun H locs hP hD hS => ?_)
  have hP : va_P D vwCl [(h0, .inr (0, [.ref a7_1, .ref a15_2, .int 0])), (a7_1, .inl (k7_1, 48, .inl (fun _ => 0))), (a15_2, .inl (k15_2, 48, .inl (fun _ => 0)))] H := hP
  have hD : va_D A [(h0, .inr (0, [.ref a7_1, .ref a15_2, .int 0])), (a7_1, .inl (k7_1, 48, .inl (fun _ => 0))), (a15_2, .inl (k15_2, 48, .inl (fun _ => 0)))] := hD
  exact wr_v (q := (fun i => match i with | 0 => a7_1 | 1 => a15_2 | _ => 0)) (k := (fun _ => 0)) (g := (fun _ => fun _ => 0)) (gl := (fun _ => fun _ => 0)) hx hb hr hlocks hS (hP.sub [0] rfl) (hK.sub [] rfl) (hD.sub [0] (by decide) rfl) dX0_init_20
set_option maxHeartbeats 4000000 in
set_option maxRecDepth 100000 in
theorem wX7_init {l : Launch} {D : va_G} {sz : Nat} (h0 : Nat) (a1 : Nat) (a2 : Nat) : Wv l yX7_init cX7_init 3 1 0 0 D [(h0, .inr (7, [.null, .null]))] [] [.ref h0, .ref a1, .ref a2] sz (fun _ => True) (fun q k g gl => [(h0, .inr (7, [.ref a1, .ref a2]))]) (fun k => []) := by
  refine Wv.of (by decide) (Nat.le_of_ble_eq_true rfl) ?_
  intro p e s m below meth c ls A hx hb hr hml hown hts hlocks hin hP hK hD hA hS hE hAe hl
  have hown : s.vm.findClass "SignalTable$Openings" = some m.cls := hown
  have hin : meth.name = "<init>" := hin
  skip
  have hl : lv_has ls 3 [(0, .ref h0), (1, .ref a1), (2, .ref a2)] := hl
  refine lv_aload_n hx hb dX7_init_0 rfl (lv_at hl 0 rfl) ?_
  refine W.objInit hx hb hown (hts _ kw_683) (hts _ kw_180) (hts _ kw_181) rfl (by rw [hml]; exact hl.1) rfl dX7_init_1 (by decide) (Nat.le_of_ble_eq_true rfl) ?_
  refine lv_aload_n hx hb dX7_init_4 rfl (lv_at hl 0 rfl) ?_
  refine lv_aload_n hx hb dX7_init_5 rfl (lv_at hl 1 rfl) ?_
  refine va_putF (D := D) (ci := 7) (v := .ref a1) (ty := .object "SignalTable$Laws") (C := RX7) (T := TX7) (N := 2) hx hb hts inX7 tyX7 tyX7_ok nmX7 hown hK hP hD hS 0 rfl rfl 0 (by decide) (hts _ kw_684) (fun _ h9 => h9) rfl hin rfl (by decide +kernel) rfl rfl (Nat.le_of_ble_eq_true rfl) dX7_init_6 (fun H locs hP hD hS => ?_)
  have hP : va_P D vwCl [(h0, .inr (7, [.ref a1, .null]))] H := hP
  have hD : va_D A [(h0, .inr (7, [.ref a1, .null]))] := hD
  refine lv_aload_n hx hb dX7_init_9 rfl (lv_at hl 0 rfl) ?_
  refine lv_aload_n hx hb dX7_init_10 rfl (lv_at hl 2 rfl) ?_
  refine va_putF (D := D) (ci := 7) (v := .ref a2) (ty := .object "SignalTable$Judge") (C := RX7) (T := TX7) (N := 2) hx hb hts inX7 tyX7 tyX7_ok nmX7 hown hK hP hD hS 0 rfl rfl 1 (by decide) (hts _ kw_685) (fun _ h9 => h9) rfl hin rfl (by decide +kernel) rfl rfl (Nat.le_of_ble_eq_true rfl) dX7_init_11 (fun H locs hP hD hS => ?_)
  have hP : va_P D vwCl [(h0, .inr (7, [.ref a1, .ref a2]))] H := hP
  have hD : va_D A [(h0, .inr (7, [.ref a1, .ref a2]))] := hD
  exact wr_v (q := (fun _ => 0)) (k := (fun _ => 0)) (g := (fun _ => fun _ => 0)) (gl := (fun _ => fun _ => 0)) hx hb hr hlocks hS (hP.sub [0] rfl) (hK.sub [] rfl) (hD.sub [0] (by decide) rfl) dX7_init_14
end
section
/-! names of the JDK's methods -/
abbrev cJ0_charAt_5068e : ByteArray := prog_17_method_56_code
def yJ0_charAt_5068e : MethodName := ⟨"java/lang/String", "charAt", "(I)C"⟩
abbrev cJ0_checkIndex_df160 : ByteArray := prog_17_method_155_code
def yJ0_checkIndex_df160 : MethodName := ⟨"java/lang/String", "checkIndex", "(II)V"⟩
abbrev cJ0_coder_7d493 : ByteArray := prog_17_method_152_code
def yJ0_coder_7d493 : MethodName := ⟨"java/lang/String", "coder", "()B"⟩
abbrev cJ0_isLatin1_aae02 : ByteArray := prog_17_method_154_code
def yJ0_isLatin1_aae02 : MethodName := ⟨"java/lang/String", "isLatin1", "()Z"⟩
abbrev cJ0_length_8abf5 : ByteArray := prog_17_method_54_code
def yJ0_length_8abf5 : MethodName := ⟨"java/lang/String", "length", "()I"⟩
abbrev cJ1_charAt_3b067 : ByteArray := prog_18_method_2_code
def yJ1_charAt_3b067 : MethodName := ⟨"java/lang/StringLatin1", "charAt", "([BI)C"⟩
abbrev cJ3_checkIndex_8e157 : ByteArray := prog_21_method_11_code
def yJ3_checkIndex_8e157 : MethodName := ⟨"jdk/internal/util/Preconditions", "checkIndex", "(IILjava/util/function/BiFunction;)I"⟩
theorem kw_159 : Cond.initialized "java/lang/String" ∈ lwg := wu_mem (i := 159) (by decide +kernel) rfl
theorem kw_160 : Cond.initialized "java/lang/StringLatin1" ∈ lwg := wu_mem (i := 160) (by decide +kernel) rfl
theorem kw_161 : Cond.initialized "jdk/internal/util/Preconditions" ∈ lwg := wu_mem (i := 161) (by decide +kernel) rfl
theorem kw_314 : Cond.methodLink "java/lang/String" 335 yJ0_coder_7d493 ∈ lwg := wu_mem (i := 314) (by decide +kernel) rfl
theorem kw_315 : Cond.instanceMethod yJ0_coder_7d493 ∈ lwg := wu_mem (i := 315) (by decide +kernel) rfl
theorem kw_316 : Cond.selects "java/lang/String" yJ0_coder_7d493 yJ0_coder_7d493 ∈ lwg := wu_mem (i := 316) (by decide +kernel) rfl
theorem kw_317 : Cond.code yJ0_coder_7d493 cJ0_coder_7d493 1 (some .byte) ∈ lwg := wu_mem (i := 317) (by decide +kernel) rfl
theorem kw_318 : Cond.fieldLink "java/lang/String" 38 "java/lang/String" "COMPACT_STRINGS" "Z" ∈ lwg := wu_mem (i := 318) (by decide +kernel) rfl
theorem kw_324 : Cond.methodLink "java/lang/String" 492 yJ0_isLatin1_aae02 ∈ lwg := wu_mem (i := 324) (by decide +kernel) rfl
theorem kw_325 : Cond.instanceMethod yJ0_isLatin1_aae02 ∈ lwg := wu_mem (i := 325) (by decide +kernel) rfl
theorem kw_326 : Cond.selects "java/lang/String" yJ0_isLatin1_aae02 yJ0_isLatin1_aae02 ∈ lwg := wu_mem (i := 326) (by decide +kernel) rfl
theorem kw_327 : Cond.code yJ0_isLatin1_aae02 cJ0_isLatin1_aae02 1 (some .boolean) ∈ lwg := wu_mem (i := 327) (by decide +kernel) rfl
theorem kw_328 : Cond.methodLink "java/lang/String" 495 yJ1_charAt_3b067 ∈ lwg := wu_mem (i := 328) (by decide +kernel) rfl
theorem kw_329 : Cond.static yJ1_charAt_3b067 ∈ lwg := wu_mem (i := 329) (by decide +kernel) rfl
theorem kw_330 : Cond.code yJ1_charAt_3b067 cJ1_charAt_3b067 2 (some .char) ∈ lwg := wu_mem (i := 330) (by decide +kernel) rfl
theorem kw_331 : Cond.methodLink "java/lang/StringLatin1" 9 yJ0_checkIndex_df160 ∈ lwg := wu_mem (i := 331) (by decide +kernel) rfl
theorem kw_332 : Cond.static yJ0_checkIndex_df160 ∈ lwg := wu_mem (i := 332) (by decide +kernel) rfl
theorem kw_333 : Cond.code yJ0_checkIndex_df160 cJ0_checkIndex_df160 2 none ∈ lwg := wu_mem (i := 333) (by decide +kernel) rfl
theorem kw_334 : Cond.fieldLink "java/lang/String" 1053 "jdk/internal/util/Preconditions" "SIOOBE_FORMATTER" "Ljava/util/function/BiFunction;" ∈ lwg := wu_mem (i := 334) (by decide +kernel) rfl
theorem kw_336 : Cond.methodLink "java/lang/String" 1059 yJ3_checkIndex_8e157 ∈ lwg := wu_mem (i := 336) (by decide +kernel) rfl
theorem kw_337 : Cond.static yJ3_checkIndex_8e157 ∈ lwg := wu_mem (i := 337) (by decide +kernel) rfl
theorem kw_338 : Cond.code yJ3_checkIndex_8e157 cJ3_checkIndex_8e157 3 (some .int) ∈ lwg := wu_mem (i := 338) (by decide +kernel) rfl
theorem kw_2374 : Cond.fieldLink "java/lang/String" 9 "java/lang/String" "value" "[B" ∈ lwg := wu_mem (i := 2374) (by decide +kernel) rfl
theorem kw_2375 : Cond.fieldLink "java/lang/String" 15 "java/lang/String" "coder" "B" ∈ lwg := wu_mem (i := 2375) (by decide +kernel) rfl
theorem caV_java_lang_String_335 : CaV "java/lang/String" "java/lang/String" 335 yJ0_coder_7d493 cJ0_coder_7d493 1 (some .byte) 0 := ⟨kw_314, kw_315, kw_316, kw_159, kw_317, rfl, by decide +kernel, by decide +kernel, by decide +kernel⟩
theorem caS_java_lang_String_1059 : CaS "java/lang/String" 1059 yJ3_checkIndex_8e157 cJ3_checkIndex_8e157 3 (some .int) 3 := ⟨kw_336, kw_337, kw_161, kw_338, by decide +kernel, by decide +kernel, by decide +kernel⟩
theorem caS_java_lang_StringLatin1_9 : CaS "java/lang/StringLatin1" 9 yJ0_checkIndex_df160 cJ0_checkIndex_df160 2 none 2 := ⟨kw_331, kw_332, kw_159, kw_333, by decide +kernel, by decide +kernel, by decide +kernel⟩
theorem caV_java_lang_String_492 : CaV "java/lang/String" "java/lang/String" 492 yJ0_isLatin1_aae02 cJ0_isLatin1_aae02 1 (some .boolean) 0 := ⟨kw_324, kw_325, kw_326, kw_159, kw_327, rfl, by decide +kernel, by decide +kernel, by decide +kernel⟩
theorem caS_java_lang_String_495 : CaS "java/lang/String" 495 yJ1_charAt_3b067 cJ1_charAt_3b067 2 (some .char) 2 := ⟨kw_328, kw_329, kw_160, kw_330, by decide +kernel, by decide +kernel, by decide +kernel⟩
theorem dJ0_charAt_5068e_0 : decode cJ0_charAt_5068e 0 = .ok (.aload_n 0, 1) := by decide +kernel
theorem dJ0_charAt_5068e_1 : decode cJ0_charAt_5068e 1 = .ok (.invokevirtual 492, 3) := by decide +kernel
theorem dJ0_charAt_5068e_4 : decode cJ0_charAt_5068e 4 = .ok (.ifCond .eq 12, 3) := by decide +kernel
theorem dJ0_charAt_5068e_7 : decode cJ0_charAt_5068e 7 = .ok (.aload_n 0, 1) := by decide +kernel
theorem dJ0_charAt_5068e_8 : decode cJ0_charAt_5068e 8 = .ok (.getfield 9, 3) := by decide +kernel
theorem dJ0_charAt_5068e_11 : decode cJ0_charAt_5068e 11 = .ok (.iload_n 1, 1) := by decide +kernel
theorem dJ0_charAt_5068e_12 : decode cJ0_charAt_5068e 12 = .ok (.invokestatic 495, 3) := by decide +kernel
theorem dJ0_charAt_5068e_15 : decode cJ0_charAt_5068e 15 = .ok (.ireturn, 1) := by decide +kernel
theorem dJ0_checkIndex_df160_0 : decode cJ0_checkIndex_df160 0 = .ok (.iload_n 0, 1) := by decide +kernel
theorem dJ0_checkIndex_df160_1 : decode cJ0_checkIndex_df160 1 = .ok (.iload_n 1, 1) := by decide +kernel
theorem dJ0_checkIndex_df160_2 : decode cJ0_checkIndex_df160 2 = .ok (.getstatic 1053, 3) := by decide +kernel
theorem dJ0_checkIndex_df160_5 : decode cJ0_checkIndex_df160 5 = .ok (.invokestatic 1059, 3) := by decide +kernel
theorem dJ0_checkIndex_df160_8 : decode cJ0_checkIndex_df160 8 = .ok (.pop, 1) := by decide +kernel
theorem dJ0_checkIndex_df160_9 : decode cJ0_checkIndex_df160 9 = .ok (.return_, 1) := by decide +kernel
theorem dJ0_coder_7d493_0 : decode cJ0_coder_7d493 0 = .ok (.getstatic 38, 3) := by decide +kernel
theorem dJ0_coder_7d493_3 : decode cJ0_coder_7d493 3 = .ok (.ifCond .eq 10, 3) := by decide +kernel
theorem dJ0_coder_7d493_6 : decode cJ0_coder_7d493 6 = .ok (.aload_n 0, 1) := by decide +kernel
theorem dJ0_coder_7d493_7 : decode cJ0_coder_7d493 7 = .ok (.getfield 15, 3) := by decide +kernel
theorem dJ0_coder_7d493_10 : decode cJ0_coder_7d493 10 = .ok (.goto 4, 3) := by decide +kernel
theorem dJ0_coder_7d493_14 : decode cJ0_coder_7d493 14 = .ok (.ireturn, 1) := by decide +kernel
theorem dJ0_isLatin1_aae02_0 : decode cJ0_isLatin1_aae02 0 = .ok (.getstatic 38, 3) := by decide +kernel
theorem dJ0_isLatin1_aae02_3 : decode cJ0_isLatin1_aae02 3 = .ok (.ifCond .eq 14, 3) := by decide +kernel
theorem dJ0_isLatin1_aae02_6 : decode cJ0_isLatin1_aae02 6 = .ok (.aload_n 0, 1) := by decide +kernel
theorem dJ0_isLatin1_aae02_7 : decode cJ0_isLatin1_aae02 7 = .ok (.getfield 15, 3) := by decide +kernel
theorem dJ0_isLatin1_aae02_10 : decode cJ0_isLatin1_aae02 10 = .ok (.ifCond .ne 7, 3) := by decide +kernel
theorem dJ0_isLatin1_aae02_13 : decode cJ0_isLatin1_aae02 13 = .ok (.iconst 1, 1) := by decide +kernel
theorem dJ0_isLatin1_aae02_14 : decode cJ0_isLatin1_aae02 14 = .ok (.goto 4, 3) := by decide +kernel
theorem dJ0_isLatin1_aae02_18 : decode cJ0_isLatin1_aae02 18 = .ok (.ireturn, 1) := by decide +kernel
theorem dJ0_length_8abf5_0 : decode cJ0_length_8abf5 0 = .ok (.aload_n 0, 1) := by decide +kernel
theorem dJ0_length_8abf5_1 : decode cJ0_length_8abf5 1 = .ok (.getfield 9, 3) := by decide +kernel
theorem dJ0_length_8abf5_4 : decode cJ0_length_8abf5 4 = .ok (.arraylength, 1) := by decide +kernel
theorem dJ0_length_8abf5_5 : decode cJ0_length_8abf5 5 = .ok (.aload_n 0, 1) := by decide +kernel
theorem dJ0_length_8abf5_6 : decode cJ0_length_8abf5 6 = .ok (.invokevirtual 335, 3) := by decide +kernel
theorem dJ0_length_8abf5_9 : decode cJ0_length_8abf5 9 = .ok (.ishr, 1) := by decide +kernel
theorem dJ0_length_8abf5_10 : decode cJ0_length_8abf5 10 = .ok (.ireturn, 1) := by decide +kernel
theorem dJ1_charAt_3b067_0 : decode cJ1_charAt_3b067 0 = .ok (.iload_n 1, 1) := by decide +kernel
theorem dJ1_charAt_3b067_1 : decode cJ1_charAt_3b067 1 = .ok (.aload_n 0, 1) := by decide +kernel
theorem dJ1_charAt_3b067_2 : decode cJ1_charAt_3b067 2 = .ok (.arraylength, 1) := by decide +kernel
theorem dJ1_charAt_3b067_3 : decode cJ1_charAt_3b067 3 = .ok (.invokestatic 9, 3) := by decide +kernel
theorem dJ1_charAt_3b067_6 : decode cJ1_charAt_3b067 6 = .ok (.aload_n 0, 1) := by decide +kernel
theorem dJ1_charAt_3b067_7 : decode cJ1_charAt_3b067 7 = .ok (.iload_n 1, 1) := by decide +kernel
theorem dJ1_charAt_3b067_8 : decode cJ1_charAt_3b067 8 = .ok (.baload, 1) := by decide +kernel
theorem dJ1_charAt_3b067_9 : decode cJ1_charAt_3b067 9 = .ok (.sipush 255, 3) := by decide +kernel
theorem dJ1_charAt_3b067_12 : decode cJ1_charAt_3b067 12 = .ok (.iand, 1) := by decide +kernel
theorem dJ1_charAt_3b067_13 : decode cJ1_charAt_3b067 13 = .ok (.i2c, 1) := by decide +kernel
theorem dJ1_charAt_3b067_14 : decode cJ1_charAt_3b067 14 = .ok (.ireturn, 1) := by decide +kernel
theorem dJ3_checkIndex_8e157_0 : decode cJ3_checkIndex_8e157 0 = .ok (.iload_n 0, 1) := by decide +kernel
theorem dJ3_checkIndex_8e157_1 : decode cJ3_checkIndex_8e157 1 = .ok (.ifCond .lt 8, 3) := by decide +kernel
theorem dJ3_checkIndex_8e157_4 : decode cJ3_checkIndex_8e157 4 = .ok (.iload_n 0, 1) := by decide +kernel
theorem dJ3_checkIndex_8e157_5 : decode cJ3_checkIndex_8e157 5 = .ok (.iload_n 1, 1) := by decide +kernel
theorem dJ3_checkIndex_8e157_6 : decode cJ3_checkIndex_8e157 6 = .ok (.if_icmp .lt 10, 3) := by decide +kernel
theorem dJ3_checkIndex_8e157_16 : decode cJ3_checkIndex_8e157 16 = .ok (.iload_n 0, 1) := by decide +kernel
theorem dJ3_checkIndex_8e157_17 : decode cJ3_checkIndex_8e157 17 = .ok (.ireturn, 1) := by decide +kernel
end
section
set_option maxHeartbeats 4000000 in
set_option maxRecDepth 100000 in
theorem j_coder {l : Launch} (a v n : Nat) (f : Nat → Int32) (fm : Option Nat) : RdE l yJ0_coder_7d493 cJ0_coder_7d493 1 (some .byte) 0 (SF a v n f fm) [.ref a] (.int 0) := by
  refine RdE.of (by decide) (Nat.le_of_ble_eq_true rfl) ?_
  intro p e s m below meth c ls hx hb hr hml hown hts hlocks hE hl
  have hown : s.vm.findClass "java/lang/String" = some m.cls := hown
  have hl : lv_has ls 1 [(0, .ref a)] := hl
  have hS : va_S (fun _ => False) s.heap s.heap [] := va_S.rf
  refine va_gets hx hb hE.2.2.2.2.1 hS hown (hts _ kw_318) (fun _ h9 => h9) dJ0_coder_7d493_0 ?_
  refine lv_if_eq (tgt := 13) hx hb dJ0_coder_7d493_3 (by decide) (fun h => absurd h (by decide)) (fun _ => ?_)
  refine lv_aload_n hx hb dJ0_coder_7d493_6 rfl (lv_at hl 0 rfl) ?_
  refine vk_getf hx hb hE.2.1 hS hown (hts _ kw_2375) (fun _ h9 => h9) dJ0_coder_7d493_7 ?_
  refine lv_goto (tgt := 14) hx hb dJ0_coder_7d493_10 (by decide) ?_
  exact rd_b hx hb hr hlocks rfl rfl dJ0_coder_7d493_14
set_option maxHeartbeats 4000000 in
set_option maxRecDepth 100000 in
theorem j_isLatin1 {l : Launch} (a v n : Nat) (f : Nat → Int32) (fm : Option Nat) : RdE l yJ0_isLatin1_aae02 cJ0_isLatin1_aae02 1 (some .boolean) 0 (SF a v n f fm) [.ref a] (.int 1) := by
  refine RdE.of (by decide) (Nat.le_of_ble_eq_true rfl) ?_
  intro p e s m below meth c ls hx hb hr hml hown hts hlocks hE hl
  have hown : s.vm.findClass "java/lang/String" = some m.cls := hown
  have hl : lv_has ls 1 [(0, .ref a)] := hl
  have hS : va_S (fun _ => False) s.heap s.heap [] := va_S.rf
  refine va_gets hx hb hE.2.2.2.2.1 hS hown (hts _ kw_318) (fun _ h9 => h9) dJ0_isLatin1_aae02_0 ?_
  refine lv_if_eq (tgt := 17) hx hb dJ0_isLatin1_aae02_3 (by decide) (fun h => absurd h (by decide)) (fun _ => ?_)
  refine lv_aload_n hx hb dJ0_isLatin1_aae02_6 rfl (lv_at hl 0 rfl) ?_
  refine vk_getf hx hb hE.2.1 hS hown (hts _ kw_2375) (fun _ h9 => h9) dJ0_isLatin1_aae02_7 ?_
  refine lv_if_ne (tgt := 17) hx hb dJ0_isLatin1_aae02_10 (by decide) (fun h => absurd (by decide) h) (fun _ => ?_)
  refine lv_iconst (v := 1) hx hb dJ0_isLatin1_aae02_13 (by decide) ?_
  refine lv_goto (tgt := 18) hx hb dJ0_isLatin1_aae02_14 (by decide) ?_
  exact rd_b hx hb hr hlocks rfl rfl dJ0_isLatin1_aae02_18
set_option maxHeartbeats 4000000 in
set_option maxRecDepth 100000 in
theorem j_length {l : Launch} (a v n : Nat) (f : Nat → Int32) (fm : Option Nat) (hn : n < 2 ^ 31) : RdE l yJ0_length_8abf5 cJ0_length_8abf5 1 (some .int) 1 (SF a v n f fm) [.ref a] (.int (nI n)) := by
  refine RdE.of (by decide) (Nat.le_of_ble_eq_true rfl) ?_
  intro p e s m below meth c ls hx hb hr hml hown hts hlocks hE hl
  have hown : s.vm.findClass "java/lang/String" = some m.cls := hown
  have hl : lv_has ls 1 [(0, .ref a)] := hl
  have hS : va_S (fun _ => False) s.heap s.heap [] := va_S.rf
  refine lv_aload_n hx hb dJ0_length_8abf5_0 rfl (lv_at hl 0 rfl) ?_
  refine vk_getf hx hb hE.2.2.1 hS hown (hts _ kw_2374) (fun _ h9 => h9) dJ0_length_8abf5_1 ?_
  refine va_tlen (v := nI n) hx hb hE.2.2.2.1 hS rfl dJ0_length_8abf5_4 ?_
  refine lv_aload_n hx hb dJ0_length_8abf5_5 rfl (lv_at hl 0 rfl) ?_
  refine re_V (As := []) (rest := [.int (nI n)]) caV_java_lang_String_335 hx hb hml hown hts (j_coder a v n f fm) SF_bl (SF_of hE hS) (by obtain ⟨cell, h1, h2, h3, _⟩ := hE.1; exact ⟨cell, h1, h2, h3⟩) (by decide) rfl hl.1 (Nat.le_of_ble_eq_true rfl) (by decide) dJ0_length_8abf5_6 rfl ?_
  refine lv_ishr hx hb dJ0_length_8abf5_9 ?_
  exact rd_i hx hb hr hlocks (congrArg Value.int (sc_shr0 hn)) dJ0_length_8abf5_10
set_option maxHeartbeats 4000000 in
set_option maxRecDepth 100000 in
theorem j_preN {l : Launch} (i n : Nat) (hi : i < n) (hn : n < 2 ^ 31) : RdE l yJ3_checkIndex_8e157 cJ3_checkIndex_8e157 3 (some .int) 0 (fun _ => True) [.int (nI i), .int (nI n), .null] (.int (nI i)) := by
  refine RdE.of (by decide) (Nat.le_of_ble_eq_true rfl) ?_
  intro p e s m below meth c ls hx hb hr hml hown hts hlocks hE hl
  have hown : s.vm.findClass "jdk/internal/util/Preconditions" = some m.cls := hown
  have hl : lv_has ls 3 [(0, .int (nI i)), (1, .int (nI n)), (2, .null)] := hl
  have hS : va_S (fun _ => False) s.heap s.heap [] := va_S.rf
  refine lv_iload_n hx hb dJ3_checkIndex_8e157_0 rfl (lv_at hl 0 rfl) ?_
  refine lv_if_lt (tgt := 9) hx hb dJ3_checkIndex_8e157_1 (by decide) (fun h => absurd h (nI_pos (by omega))) (fun _ => ?_)
  refine lv_iload_n hx hb dJ3_checkIndex_8e157_4 rfl (lv_at hl 0 rfl) ?_
  refine lv_iload_n hx hb dJ3_checkIndex_8e157_5 rfl (lv_at hl 1 rfl) ?_
  refine lv_icmp_lt (tgt := 16) hx hb dJ3_checkIndex_8e157_6 (by decide) (fun _ => ?_) (fun h => absurd (nI_lt hi hn) h)
  refine lv_iload_n hx hb dJ3_checkIndex_8e157_16 rfl (lv_at hl 0 rfl) ?_
  exact rd_i hx hb hr hlocks rfl dJ3_checkIndex_8e157_17
set_option maxHeartbeats 4000000 in
set_option maxRecDepth 100000 in
theorem j_preR {l : Launch} (x : Nat) (i n : Nat) (hi : i < n) (hn : n < 2 ^ 31) : RdE l yJ3_checkIndex_8e157 cJ3_checkIndex_8e157 3 (some .int) 0 (fun _ => True) [.int (nI i), .int (nI n), .ref x] (.int (nI i)) := by
  refine RdE.of (by decide) (Nat.le_of_ble_eq_true rfl) ?_
  intro p e s m below meth c ls hx hb hr hml hown hts hlocks hE hl
  have hown : s.vm.findClass "jdk/internal/util/Preconditions" = some m.cls := hown
  have hl : lv_has ls 3 [(0, .int (nI i)), (1, .int (nI n)), (2, .ref x)] := hl
  have hS : va_S (fun _ => False) s.heap s.heap [] := va_S.rf
  refine lv_iload_n hx hb dJ3_checkIndex_8e157_0 rfl (lv_at hl 0 rfl) ?_
  refine lv_if_lt (tgt := 9) hx hb dJ3_checkIndex_8e157_1 (by decide) (fun h => absurd h (nI_pos (by omega))) (fun _ => ?_)
  refine lv_iload_n hx hb dJ3_checkIndex_8e157_4 rfl (lv_at hl 0 rfl) ?_
  refine lv_iload_n hx hb dJ3_checkIndex_8e157_5 rfl (lv_at hl 1 rfl) ?_
  refine lv_icmp_lt (tgt := 16) hx hb dJ3_checkIndex_8e157_6 (by decide) (fun _ => ?_) (fun h => absurd (nI_lt hi hn) h)
  refine lv_iload_n hx hb dJ3_checkIndex_8e157_16 rfl (lv_at hl 0 rfl) ?_
  exact rd_i hx hb hr hlocks rfl dJ3_checkIndex_8e157_17
theorem j_pre {l : Launch} (fm : Option Nat) (i n : Nat) (hi : i < n) (hn : n < 2 ^ 31) : RdE l yJ3_checkIndex_8e157 cJ3_checkIndex_8e157 3 (some .int) 0 (fun _ => True) [.int (nI i), .int (nI n), va_rf fm] (.int (nI i)) := by
  cases fm with
  | none => exact j_preN i n hi hn
  | some x => exact j_preR x i n hi hn
set_option maxHeartbeats 4000000 in
set_option maxRecDepth 100000 in
theorem j_checkIndex {l : Launch} (a v n : Nat) (f : Nat → Int32) (fm : Option Nat) (i k : Nat) (hi : i < k) (hk : k < 2 ^ 31) : RdN l yJ0_checkIndex_df160 cJ0_checkIndex_df160 2 1 (SF a v n f fm) [.int (nI i), .int (nI k)] := by
  refine RdN.of (by decide) (Nat.le_of_ble_eq_true rfl) ?_
  intro p e s m below meth c ls hx hb hr hml hown hts hlocks hE hl
  have hown : s.vm.findClass "java/lang/String" = some m.cls := hown
  have hl : lv_has ls 2 [(0, .int (nI i)), (1, .int (nI k))] := hl
  have hS : va_S (fun _ => False) s.heap s.heap [] := va_S.rf
  refine lv_iload_n hx hb dJ0_checkIndex_df160_0 rfl (lv_at hl 0 rfl) ?_
  refine lv_iload_n hx hb dJ0_checkIndex_df160_1 rfl (lv_at hl 1 rfl) ?_
  refine va_gets hx hb hE.2.2.2.2.2 hS hown (hts _ kw_334) (fun _ h9 => h9) dJ0_checkIndex_df160_2 ?_
  refine re_S (As := [.int (nI i), .int (nI k), va_rf fm]) (rest := []) caS_java_lang_String_1059 hx hb hml hown hts (j_pre fm i k hi hk) bl_T (fun _ _ _ => trivial) (by decide) rfl hl.1 (Nat.le_of_ble_eq_true rfl) (by decide) dJ0_checkIndex_df160_5 rfl ?_
  refine lv_pop hx hb dJ0_checkIndex_df160_8 rfl ?_
  exact rd_n hx hb hr hlocks dJ0_checkIndex_df160_9
def jch (f : Nat → Int32) (i : Nat) : Int32 := f i &&& 255
set_option maxHeartbeats 4000000 in
set_option maxRecDepth 100000 in
theorem j_latin {l : Launch} (a v n : Nat) (f : Nat → Int32) (fm : Option Nat) (i : Nat) (hi : i < n) (hn : n < 2 ^ 31) : RdE l yJ1_charAt_3b067 cJ1_charAt_3b067 2 (some .char) 2 (SF a v n f fm) [.ref v, .int (nI i)] (.int (jch f i)) := by
  refine RdE.of (by decide) (Nat.le_of_ble_eq_true rfl) ?_
  intro p e s m below meth c ls hx hb hr hml hown hts hlocks hE hl
  have hown : s.vm.findClass "java/lang/StringLatin1" = some m.cls := hown
  have hl : lv_has ls 2 [(0, .ref v), (1, .int (nI i))] := hl
  have hS : va_S (fun _ => False) s.heap s.heap [] := va_S.rf
  refine lv_iload_n hx hb dJ1_charAt_3b067_0 rfl (lv_at hl 1 rfl) ?_
  refine lv_aload_n hx hb dJ1_charAt_3b067_1 rfl (lv_at hl 0 rfl) ?_
  refine va_tlen (v := nI n) hx hb hE.2.2.2.1 hS rfl dJ1_charAt_3b067_2 ?_
  refine re_SN (As := [.int (nI i), .int (nI n)]) (rest := []) caS_java_lang_StringLatin1_9 hx hb hml hown hts (j_checkIndex a v n f fm i n hi hn) SF_bl (SF_of hE hS) (by decide) rfl hl.1 (Nat.le_of_ble_eq_true rfl) (by decide) dJ1_charAt_3b067_3 rfl ?_
  refine lv_aload_n hx hb dJ1_charAt_3b067_6 rfl (lv_at hl 0 rfl) ?_
  refine lv_iload_n hx hb dJ1_charAt_3b067_7 rfl (lv_at hl 1 rfl) ?_
  refine va_tb (v := .int (f i)) hx hb hE.2.2.2.1 hS (vp_in_nI hi hn) (by rw [nI_clamp (by omega)]) dJ1_charAt_3b067_8 ?_
  refine lv_sipush (v := 255) hx hb dJ1_charAt_3b067_9 (by decide) ?_
  refine lv_iand hx hb dJ1_charAt_3b067_12 ?_
  refine lv_i2c (v := f i &&& 255) hx hb dJ1_charAt_3b067_13 (sc_c2 _) ?_
  exact rd_b hx hb hr hlocks (sc_nar _) rfl dJ1_charAt_3b067_14
set_option maxHeartbeats 4000000 in
set_option maxRecDepth 100000 in
theorem j_charAt {l : Launch} (a v n : Nat) (f : Nat → Int32) (fm : Option Nat) (i : Nat) (hi : i < n) (hn : n < 2 ^ 31) : RdE l yJ0_charAt_5068e cJ0_charAt_5068e 2 (some .char) 3 (SF a v n f fm) [.ref a, .int (nI i)] (.int (jch f i)) := by
  refine RdE.of (by decide) (Nat.le_of_ble_eq_true rfl) ?_
  intro p e s m below meth c ls hx hb hr hml hown hts hlocks hE hl
  have hown : s.vm.findClass "java/lang/String" = some m.cls := hown
  have hl : lv_has ls 2 [(0, .ref a), (1, .int (nI i))] := hl
  have hS : va_S (fun _ => False) s.heap s.heap [] := va_S.rf
  refine lv_aload_n hx hb dJ0_charAt_5068e_0 rfl (lv_at hl 0 rfl) ?_
  refine re_V (As := []) (rest := []) caV_java_lang_String_492 hx hb hml hown hts (j_isLatin1 a v n f fm) SF_bl (SF_of hE hS) (by obtain ⟨cell, h1, h2, h3, _⟩ := hE.1; exact ⟨cell, h1, h2, h3⟩) (by decide) rfl hl.1 (Nat.le_of_ble_eq_true rfl) (by decide) dJ0_charAt_5068e_1 rfl ?_
  refine lv_if_eq (tgt := 16) hx hb dJ0_charAt_5068e_4 (by decide) (fun h => absurd h (by decide)) (fun _ => ?_)
  refine lv_aload_n hx hb dJ0_charAt_5068e_7 rfl (lv_at hl 0 rfl) ?_
  refine vk_getf hx hb hE.2.2.1 hS hown (hts _ kw_2374) (fun _ h9 => h9) dJ0_charAt_5068e_8 ?_
  refine lv_iload_n hx hb dJ0_charAt_5068e_11 rfl (lv_at hl 1 rfl) ?_
  refine re_S (As := [.ref v, .int (nI i)]) (rest := []) caS_java_lang_String_495 hx hb hml hown hts (j_latin a v n f fm i hi hn) SF_bl (SF_of hE hS) (by decide) rfl hl.1 (Nat.le_of_ble_eq_true rfl) (by decide) dJ0_charAt_5068e_12 rfl ?_
  exact rd_b hx hb hr hlocks (sc_nar _) rfl dJ0_charAt_5068e_15
end
section
/-! names -/
abbrev cX8_init : ByteArray := prog_10_method_1_code
def yX8_init : MethodName := ⟨RX8, "<init>", "(LSignalTable$Laws;)V"⟩
abbrev cX9_init : ByteArray := prog_11_method_1_code
def yX9_init : MethodName := ⟨RX9, "<init>", "()V"⟩
theorem kw_158 : Cond.initialized "SignalTable$Tokens" ∈ lwg := wu_mem (i := 158) (by decide +kernel) rfl
theorem kw_302 : Cond.methodLink "SignalTable$Reader" 3 ⟨"java/lang/Object", "<init>", "()V"⟩ ∈ lwg := wu_mem (i := 302) (by decide +kernel) rfl
theorem kw_303 : Cond.classLink "SignalTable$Reader" 9 "SignalTable$Tokens" ∈ lwg := wu_mem (i := 303) (by decide +kernel) rfl
theorem kw_304 : Cond.instantiable "SignalTable$Tokens" 5 ∈ lwg := wu_mem (i := 304) (by decide +kernel) rfl
theorem kw_305 : Cond.methodLink "SignalTable$Reader" 11 yX9_init ∈ lwg := wu_mem (i := 305) (by decide +kernel) rfl
theorem kw_306 : Cond.instanceMethod yX9_init ∈ lwg := wu_mem (i := 306) (by decide +kernel) rfl
theorem kw_307 : Cond.code yX9_init cX9_init 6 none ∈ lwg := wu_mem (i := 307) (by decide +kernel) rfl
theorem kw_308 : Cond.methodLink "SignalTable$Tokens" 3 ⟨"java/lang/Object", "<init>", "()V"⟩ ∈ lwg := wu_mem (i := 308) (by decide +kernel) rfl
theorem kw_310 : Cond.methodLink "SignalTable$Tokens" 27 yJ0_length_8abf5 ∈ lwg := wu_mem (i := 310) (by decide +kernel) rfl
theorem kw_311 : Cond.instanceMethod yJ0_length_8abf5 ∈ lwg := wu_mem (i := 311) (by decide +kernel) rfl
theorem kw_312 : Cond.selects "java/lang/String" yJ0_length_8abf5 yJ0_length_8abf5 ∈ lwg := wu_mem (i := 312) (by decide +kernel) rfl
theorem kw_313 : Cond.code yJ0_length_8abf5 cJ0_length_8abf5 1 (some .int) ∈ lwg := wu_mem (i := 313) (by decide +kernel) rfl
theorem kw_320 : Cond.methodLink "SignalTable$Tokens" 33 yJ0_charAt_5068e ∈ lwg := wu_mem (i := 320) (by decide +kernel) rfl
theorem kw_321 : Cond.instanceMethod yJ0_charAt_5068e ∈ lwg := wu_mem (i := 321) (by decide +kernel) rfl
theorem kw_322 : Cond.selects "java/lang/String" yJ0_charAt_5068e yJ0_charAt_5068e ∈ lwg := wu_mem (i := 322) (by decide +kernel) rfl
theorem kw_323 : Cond.code yJ0_charAt_5068e cJ0_charAt_5068e 2 (some .char) ∈ lwg := wu_mem (i := 323) (by decide +kernel) rfl
theorem kw_358 : Cond.constantLong "SignalTable$Tokens" 37 32 ∈ lwg := wu_mem (i := 358) (by decide +kernel) rfl
theorem kw_359 : Cond.fieldLink "SignalTable$Tokens" 11 "SignalTable$Tokens" "type" "[I" ∈ lwg := wu_mem (i := 359) (by decide +kernel) rfl
theorem kw_361 : Cond.fieldLink "SignalTable$Tokens" 15 "SignalTable$Tokens" "place" "[I" ∈ lwg := wu_mem (i := 361) (by decide +kernel) rfl
theorem kw_363 : Cond.fieldLink "SignalTable$Tokens" 18 "SignalTable$Tokens" "value" "[J" ∈ lwg := wu_mem (i := 363) (by decide +kernel) rfl
theorem kw_365 : Cond.fieldLink "SignalTable$Tokens" 22 "SignalTable$Tokens" "words" "[J" ∈ lwg := wu_mem (i := 365) (by decide +kernel) rfl
theorem kw_379 : Cond.fieldLink "SignalTable$Reader" 12 "SignalTable$Reader" "tokens" "LSignalTable$Tokens;" ∈ lwg := wu_mem (i := 379) (by decide +kernel) rfl
theorem kw_380 : Cond.fieldLink "SignalTable$Reader" 26 "SignalTable$Reader" "laws" "LSignalTable$Laws;" ∈ lwg := wu_mem (i := 380) (by decide +kernel) rfl
theorem kw_381 : Cond.fieldLink "SignalTable$Reader" 18 "SignalTable$Reader" "names" "[J" ∈ lwg := wu_mem (i := 381) (by decide +kernel) rfl
theorem kw_387 : Cond.fieldLink "SignalTable$Reader" 22 "SignalTable$Reader" "place" "I" ∈ lwg := wu_mem (i := 387) (by decide +kernel) rfl
theorem caV_SignalTable_Tokens_27 : CaV "SignalTable$Tokens" "java/lang/String" 27 yJ0_length_8abf5 cJ0_length_8abf5 1 (some .int) 0 := ⟨kw_310, kw_311, kw_312, kw_159, kw_313, rfl, by decide +kernel, by decide +kernel, by decide +kernel⟩
theorem caV_SignalTable_Tokens_33 : CaV "SignalTable$Tokens" "java/lang/String" 33 yJ0_charAt_5068e cJ0_charAt_5068e 2 (some .char) 1 := ⟨kw_320, kw_321, kw_322, kw_159, kw_323, rfl, by decide +kernel, by decide +kernel, by decide +kernel⟩
theorem caI_SignalTable_Reader_11 : CaI "SignalTable$Reader" 11 yX9_init cX9_init 6 0 := ⟨kw_305, kw_306, kw_158, kw_307, rfl, by decide +kernel, by decide +kernel, by decide +kernel⟩
theorem dX8_init_0 : decode cX8_init 0 = .ok (.aload_n 0, 1) := by decide +kernel
theorem dX8_init_1 : decode cX8_init 1 = .ok (.invokespecial 3, 3) := by decide +kernel
theorem dX8_init_4 : decode cX8_init 4 = .ok (.aload_n 0, 1) := by decide +kernel
theorem dX8_init_5 : decode cX8_init 5 = .ok (.new 9, 3) := by decide +kernel
theorem dX8_init_8 : decode cX8_init 8 = .ok (.dup, 1) := by decide +kernel
theorem dX8_init_9 : decode cX8_init 9 = .ok (.invokespecial 11, 3) := by decide +kernel
theorem dX8_init_12 : decode cX8_init 12 = .ok (.putfield 12, 3) := by decide +kernel
theorem dX8_init_15 : decode cX8_init 15 = .ok (.aload_n 0, 1) := by decide +kernel
theorem dX8_init_16 : decode cX8_init 16 = .ok (.bipush 6, 2) := by decide +kernel
theorem dX8_init_18 : decode cX8_init 18 = .ok (.newarray .long, 2) := by decide +kernel
theorem dX8_init_20 : decode cX8_init 20 = .ok (.putfield 18, 3) := by decide +kernel
theorem dX8_init_23 : decode cX8_init 23 = .ok (.aload_n 0, 1) := by decide +kernel
theorem dX8_init_24 : decode cX8_init 24 = .ok (.iconst (-1), 1) := by decide +kernel
theorem dX8_init_25 : decode cX8_init 25 = .ok (.putfield 22, 3) := by decide +kernel
theorem dX8_init_28 : decode cX8_init 28 = .ok (.aload_n 0, 1) := by decide +kernel
theorem dX8_init_29 : decode cX8_init 29 = .ok (.aload_n 1, 1) := by decide +kernel
theorem dX8_init_30 : decode cX8_init 30 = .ok (.putfield 26, 3) := by decide +kernel
theorem dX8_init_33 : decode cX8_init 33 = .ok (.return_, 1) := by decide +kernel
theorem dX9_init_0 : decode cX9_init 0 = .ok (.aload_n 0, 1) := by decide +kernel
theorem dX9_init_1 : decode cX9_init 1 = .ok (.invokespecial 3, 3) := by decide +kernel
theorem dX9_init_4 : decode cX9_init 4 = .ok (.aload_n 0, 1) := by decide +kernel
theorem dX9_init_5 : decode cX9_init 5 = .ok (.sipush 402, 3) := by decide +kernel
theorem dX9_init_8 : decode cX9_init 8 = .ok (.newarray .int, 2) := by decide +kernel
theorem dX9_init_10 : decode cX9_init 10 = .ok (.putfield 11, 3) := by decide +kernel
theorem dX9_init_13 : decode cX9_init 13 = .ok (.aload_n 0, 1) := by decide +kernel
theorem dX9_init_14 : decode cX9_init 14 = .ok (.sipush 402, 3) := by decide +kernel
theorem dX9_init_17 : decode cX9_init 17 = .ok (.newarray .int, 2) := by decide +kernel
theorem dX9_init_19 : decode cX9_init 19 = .ok (.putfield 15, 3) := by decide +kernel
theorem dX9_init_22 : decode cX9_init 22 = .ok (.aload_n 0, 1) := by decide +kernel
theorem dX9_init_23 : decode cX9_init 23 = .ok (.sipush 402, 3) := by decide +kernel
theorem dX9_init_26 : decode cX9_init 26 = .ok (.newarray .long, 2) := by decide +kernel
theorem dX9_init_28 : decode cX9_init 28 = .ok (.putfield 18, 3) := by decide +kernel
theorem dX9_init_31 : decode cX9_init 31 = .ok (.aload_n 0, 1) := by decide +kernel
theorem dX9_init_32 : decode cX9_init 32 = .ok (.bipush 22, 2) := by decide +kernel
theorem dX9_init_34 : decode cX9_init 34 = .ok (.newarray .long, 2) := by decide +kernel
theorem dX9_init_36 : decode cX9_init 36 = .ok (.putfield 22, 3) := by decide +kernel
theorem dX9_init_39 : decode cX9_init 39 = .ok (.iconst 0, 1) := by decide +kernel
theorem dX9_init_40 : decode cX9_init 40 = .ok (.istore_n 1, 1) := by decide +kernel
theorem dX9_init_41 : decode cX9_init 41 = .ok (.lconst 0, 1) := by decide +kernel
theorem dX9_init_42 : decode cX9_init 42 = .ok (.lstore_n 2, 1) := by decide +kernel
theorem dX9_init_43 : decode cX9_init 43 = .ok (.iconst 0, 1) := by decide +kernel
theorem dX9_init_44 : decode cX9_init 44 = .ok (.istore 4, 2) := by decide +kernel
theorem dX9_init_46 : decode cX9_init 46 = .ok (.iload 4, 2) := by decide +kernel
theorem dX9_init_48 : decode cX9_init 48 = .ok (.ldc 25, 2) := by decide +kernel
theorem dX9_init_50 : decode cX9_init 50 = .ok (.invokevirtual 27, 3) := by decide +kernel
theorem dX9_init_53 : decode cX9_init 53 = .ok (.if_icmp .ge 64, 3) := by decide +kernel
theorem dX9_init_56 : decode cX9_init 56 = .ok (.ldc 25, 2) := by decide +kernel
theorem dX9_init_58 : decode cX9_init 58 = .ok (.iload 4, 2) := by decide +kernel
theorem dX9_init_60 : decode cX9_init 60 = .ok (.invokevirtual 33, 3) := by decide +kernel
theorem dX9_init_63 : decode cX9_init 63 = .ok (.istore 5, 2) := by decide +kernel
theorem dX9_init_65 : decode cX9_init 65 = .ok (.iload 5, 2) := by decide +kernel
theorem dX9_init_67 : decode cX9_init 67 = .ok (.bipush 32, 2) := by decide +kernel
theorem dX9_init_69 : decode cX9_init 69 = .ok (.if_icmp .eq 21, 3) := by decide +kernel
theorem dX9_init_72 : decode cX9_init 72 = .ok (.lload_n 2, 1) := by decide +kernel
theorem dX9_init_73 : decode cX9_init 73 = .ok (.ldc2_w 37, 3) := by decide +kernel
theorem dX9_init_76 : decode cX9_init 76 = .ok (.lmul, 1) := by decide +kernel
theorem dX9_init_77 : decode cX9_init 77 = .ok (.iload 5, 2) := by decide +kernel
theorem dX9_init_79 : decode cX9_init 79 = .ok (.bipush 97, 2) := by decide +kernel
theorem dX9_init_81 : decode cX9_init 81 = .ok (.isub, 1) := by decide +kernel
theorem dX9_init_82 : decode cX9_init 82 = .ok (.iconst 1, 1) := by decide +kernel
theorem dX9_init_83 : decode cX9_init 83 = .ok (.iadd, 1) := by decide +kernel
theorem dX9_init_84 : decode cX9_init 84 = .ok (.i2l, 1) := by decide +kernel
theorem dX9_init_85 : decode cX9_init 85 = .ok (.ladd, 1) := by decide +kernel
theorem dX9_init_86 : decode cX9_init 86 = .ok (.lstore_n 2, 1) := by decide +kernel
theorem dX9_init_87 : decode cX9_init 87 = .ok (.goto 24, 3) := by decide +kernel
theorem dX9_init_90 : decode cX9_init 90 = .ok (.iload_n 1, 1) := by decide +kernel
theorem dX9_init_91 : decode cX9_init 91 = .ok (.aload_n 0, 1) := by decide +kernel
theorem dX9_init_92 : decode cX9_init 92 = .ok (.getfield 22, 3) := by decide +kernel
theorem dX9_init_95 : decode cX9_init 95 = .ok (.arraylength, 1) := by decide +kernel
theorem dX9_init_96 : decode cX9_init 96 = .ok (.if_icmp .ge 15, 3) := by decide +kernel
theorem dX9_init_99 : decode cX9_init 99 = .ok (.aload_n 0, 1) := by decide +kernel
theorem dX9_init_100 : decode cX9_init 100 = .ok (.getfield 22, 3) := by decide +kernel
theorem dX9_init_103 : decode cX9_init 103 = .ok (.iload_n 1, 1) := by decide +kernel
theorem dX9_init_104 : decode cX9_init 104 = .ok (.lload_n 2, 1) := by decide +kernel
theorem dX9_init_105 : decode cX9_init 105 = .ok (.lastore, 1) := by decide +kernel
theorem dX9_init_106 : decode cX9_init 106 = .ok (.iinc 1 1, 3) := by decide +kernel
theorem dX9_init_109 : decode cX9_init 109 = .ok (.lconst 0, 1) := by decide +kernel
theorem dX9_init_110 : decode cX9_init 110 = .ok (.lstore_n 2, 1) := by decide +kernel
theorem dX9_init_111 : decode cX9_init 111 = .ok (.iinc 4 1, 3) := by decide +kernel
theorem dX9_init_114 : decode cX9_init 114 = .ok (.goto (-68), 3) := by decide +kernel
theorem dX9_init_117 : decode cX9_init 117 = .ok (.return_, 1) := by decide +kernel
end
section
/-- what Tokens() needs of its string constant -/
def ES (a v n : Nat) (f : Nat → Int32) (fm : Option Nat) (wc : va_W) (U : State) : Prop := vk_R "SignalTable$Tokens" 25 "pack trump custom lead follow discard when says or and not count suit rank led trick before held high low voids trumps " a U ∧ StrF a v n f fm (va_A wc U.heap.size) U U.heap
theorem ES_bl {a v n : Nat} {f : Nat → Int32} {fm : Option Nat} {wc : va_W} : bl (ES a v n f fm wc) := fun ar U g mk h => ⟨vk_R.same (u := U) (U := U.calling g mk ar) rfl h.1, StrF.moved (u := U) (U := U.calling g mk ar) (Vm.Alike.refl U.vm) h.2⟩
theorem ES_of {a v n : Nat} {f : Nat → Int32} {fm : Option Nat} {wc : va_W} {A : Nat → Prop} {s : State} {H : Heap} {locs : List Loc} (h1 : vk_R "SignalTable$Tokens" 25 "pack trump custom lead follow discard when says or and not count suit rank led trick before held high low voids trumps " a s) (h2 : StrF a v n f fm A s s.heap) (hS : va_S A s.heap H locs) (hF : ∀ q, va_A wc H.size q → A q) : ∀ U : State, U.heap = H → s.WarmedH U.vm → ES a v n f fm wc U := fun U hU hW => by
  have h3 : StrF a v n f fm A s H := h2.kept (fun q h1 h2 => hS.2.1 q h1 h2)
  have h4 : StrF a v n f fm A U H := h3.moved hW.alike
  refine ⟨vk_R.warm hW h1, ?_⟩
  rw [hU]
  exact h4.narrow hF
set_option maxHeartbeats 4000000 in
set_option maxRecDepth 100000 in
theorem wX9_init {l : Launch} {D : va_G} {sz : Nat} (h0 : Nat) (a : Nat) (v : Nat) (f : Nat → Int32) (fm : Option Nat) : Wv l yX9_init cX9_init 6 4 4 1228 D [(h0, .inr (9, [.null, .null, .null, .null, .int 0]))] [] [.ref h0] sz (ES a v 119 f fm [(h0, .inr (9, [.null, .null, .null, .null, .int 0]))]) (fun q k g gl => [(h0, .inr (9, [.ref (q 0), .ref (q 1), .ref (q 2), .ref (q 3), .int 0])), ((q 0), .inl ((k 0), 402, .inl (fun _ => 0))), ((q 1), .inl ((k 1), 402, .inl (fun _ => 0))), ((q 2), .inl ((k 2), 402, .inr (.inl (fun _ => 0))))]) (fun k => [((k 0), .int), ((k 1), .int), ((k 2), .long)]) := by
  refine Wv.of (by decide) (Nat.le_of_ble_eq_true rfl) ?_
  intro p e s m below meth c ls A hx hb hr hml hown hts hlocks hin hP hK hD hA hS hE hAe hl
  have hown : s.vm.findClass "SignalTable$Tokens" = some m.cls := hown
  have hin : meth.name = "<init>" := hin
  skip
  have hl : lv_has ls 6 [(0, .ref h0)] := hl
  have hE2 : StrF a v 119 f fm A s s.heap := by rw [hAe]; exact hE.2
  generalize hQ : MQ below _ _ _ _ _ _ = Q0
  refine lv_aload_n hx hb dX9_init_0 rfl (lv_at hl 0 rfl) ?_
  refine W.objInit hx hb hown (hts _ kw_308) (hts _ kw_180) (hts _ kw_181) rfl (by rw [hml]; exact hl.1) rfl dX9_init_1 (by decide) (Nat.le_of_ble_eq_true rfl) ?_
  refine lv_aload_n hx hb dX9_init_4 rfl (lv_at hl 0 rfl) ?_
  refine lv_sipush (v := 402) hx hb dX9_init_5 (by decide) ?_
  refine va_newa (atype := .int) (a0 := (402, .inl (fun _ => 0))) (ty := .int) hx hb (hts _ kw_280) rfl hK hP hD hS hA (fun _ => rfl) (by decide) (by decide) (by decide) (by decide) (by decide) dX9_init_8 (fun a8_1 k8_1 H hK hP hD hS => ?_)
  have hP : va_P D vwCl [(h0, .inr (9, [.null, .null, .null, .null, .int 0])), (a8_1, .inl (k8_1, 402, .inl (fun _ => 0)))] H := hP
  have hD : va_D A [(h0, .inr (9, [.null, .null, .null, .null, .int 0])), (a8_1, .inl (k8_1, 402, .inl (fun _ => 0)))] := hD
  have hK : va_K D vwCl [(k8_1, .int)] s := hK
  refine W.cs (cells' := 1) (slots' := 402) rfl rfl ?_
  refine va_putF (D := D) (ci := 9) (v := .ref a8_1) (ty := .array .int) (C := RX9) (T := TX9) (N := 5) hx hb hts inX9 tyX9 tyX9_ok nmX9 hown hK hP hD hS 0 rfl rfl 0 (by decide) (hts _ kw_359) (fun _ h9 => h9) rfl hin rfl (by decide +kernel) rfl rfl (Nat.le_of_ble_eq_true rfl) dX9_init_10 (fun H locs hP hD hS => ?_)
  have hP : va_P D vwCl [(h0, .inr (9, [.ref a8_1, .null, .null, .null, .int 0])), (a8_1, .inl (k8_1, 402, .inl (fun _ => 0)))] H := hP
  have hD : va_D A [(h0, .inr (9, [.ref a8_1, .null, .null, .null, .int 0])), (a8_1, .inl (k8_1, 402, .inl (fun _ => 0)))] := hD
  refine lv_aload_n hx hb dX9_init_13 rfl (lv_at hl 0 rfl) ?_
  refine lv_sipush (v := 402) hx hb dX9_init_14 (by decide) ?_
  refine va_newa (atype := .int) (a0 := (402, .inl (fun _ => 0))) (ty := .int) hx hb (hts _ kw_280) rfl hK hP hD hS hA (fun _ => rfl) (by decide) (by decide) (by decide) (by decide) (by decide) dX9_init_17 (fun a17_2 k17_2 H hK hP hD hS => ?_)
  have hP : va_P D vwCl [(h0, .inr (9, [.ref a8_1, .null, .null, .null, .int 0])), (a8_1, .inl (k8_1, 402, .inl (fun _ => 0))), (a17_2, .inl (k17_2, 402, .inl (fun _ => 0)))] H := hP
  have hD : va_D A [(h0, .inr (9, [.ref a8_1, .null, .null, .null, .int 0])), (a8_1, .inl (k8_1, 402, .inl (fun _ => 0))), (a17_2, .inl (k17_2, 402, .inl (fun _ => 0)))] := hD
  have hK : va_K D vwCl [(k8_1, .int), (k17_2, .int)] s := hK
  refine W.cs (cells' := 2) (slots' := 804) rfl rfl ?_
  refine va_putF (D := D) (ci := 9) (v := .ref a17_2) (ty := .array .int) (C := RX9) (T := TX9) (N := 5) hx hb hts inX9 tyX9 tyX9_ok nmX9 hown hK hP hD hS 0 rfl rfl 1 (by decide) (hts _ kw_361) (fun _ h9 => h9) rfl hin rfl (by decide +kernel) rfl rfl (Nat.le_of_ble_eq_true rfl) dX9_init_19 (fun H locs hP hD hS => ?_)
  have hP : va_P D vwCl [(h0, .inr (9, [.ref a8_1, .ref a17_2, .null, .null, .int 0])), (a8_1, .inl (k8_1, 402, .inl (fun _ => 0))), (a17_2, .inl (k17_2, 402, .inl (fun _ => 0)))] H := hP
  have hD : va_D A [(h0, .inr (9, [.ref a8_1, .ref a17_2, .null, .null, .int 0])), (a8_1, .inl (k8_1, 402, .inl (fun _ => 0))), (a17_2, .inl (k17_2, 402, .inl (fun _ => 0)))] := hD
  refine lv_aload_n hx hb dX9_init_22 rfl (lv_at hl 0 rfl) ?_
  refine lv_sipush (v := 402) hx hb dX9_init_23 (by decide) ?_
  refine va_newa (atype := .long) (a0 := (402, .inr (.inl (fun _ => 0)))) (ty := .long) hx hb (hts _ kw_378) rfl hK hP hD hS hA (fun _ => rfl) (by decide) (by decide) (by decide) (by decide) (by decide) dX9_init_26 (fun a26_3 k26_3 H hK hP hD hS => ?_)
  have hP : va_P D vwCl [(h0, .inr (9, [.ref a8_1, .ref a17_2, .null, .null, .int 0])), (a8_1, .inl (k8_1, 402, .inl (fun _ => 0))), (a17_2, .inl (k17_2, 402, .inl (fun _ => 0))), (a26_3, .inl (k26_3, 402, .inr (.inl (fun _ => 0))))] H := hP
  have hD : va_D A [(h0, .inr (9, [.ref a8_1, .ref a17_2, .null, .null, .int 0])), (a8_1, .inl (k8_1, 402, .inl (fun _ => 0))), (a17_2, .inl (k17_2, 402, .inl (fun _ => 0))), (a26_3, .inl (k26_3, 402, .inr (.inl (fun _ => 0))))] := hD
  have hK : va_K D vwCl [(k8_1, .int), (k17_2, .int), (k26_3, .long)] s := hK
  refine W.cs (cells' := 3) (slots' := 1206) rfl rfl ?_
  refine va_putF (D := D) (ci := 9) (v := .ref a26_3) (ty := .array .long) (C := RX9) (T := TX9) (N := 5) hx hb hts inX9 tyX9 tyX9_ok nmX9 hown hK hP hD hS 0 rfl rfl 2 (by decide) (hts _ kw_363) (fun _ h9 => h9) rfl hin rfl (by decide +kernel) rfl rfl (Nat.le_of_ble_eq_true rfl) dX9_init_28 (fun H locs hP hD hS => ?_)
  have hP : va_P D vwCl [(h0, .inr (9, [.ref a8_1, .ref a17_2, .ref a26_3, .null, .int 0])), (a8_1, .inl (k8_1, 402, .inl (fun _ => 0))), (a17_2, .inl (k17_2, 402, .inl (fun _ => 0))), (a26_3, .inl (k26_3, 402, .inr (.inl (fun _ => 0))))] H := hP
  have hD : va_D A [(h0, .inr (9, [.ref a8_1, .ref a17_2, .ref a26_3, .null, .int 0])), (a8_1, .inl (k8_1, 402, .inl (fun _ => 0))), (a17_2, .inl (k17_2, 402, .inl (fun _ => 0))), (a26_3, .inl (k26_3, 402, .inr (.inl (fun _ => 0))))] := hD
  refine lv_aload_n hx hb dX9_init_31 rfl (lv_at hl 0 rfl) ?_
  refine lv_bipush (v := 22) hx hb dX9_init_32 (by decide) ?_
  refine va_newa (atype := .long) (a0 := (22, .inr (.inl (fun _ => 0)))) (ty := .long) hx hb (hts _ kw_378) rfl hK hP hD hS hA (fun _ => rfl) (by decide) (by decide) (by decide) (by decide) (by decide) dX9_init_34 (fun a34_4 k34_4 H hK hP hD hS => ?_)
  have hP : va_P D vwCl [(h0, .inr (9, [.ref a8_1, .ref a17_2, .ref a26_3, .null, .int 0])), (a8_1, .inl (k8_1, 402, .inl (fun _ => 0))), (a17_2, .inl (k17_2, 402, .inl (fun _ => 0))), (a26_3, .inl (k26_3, 402, .inr (.inl (fun _ => 0)))), (a34_4, .inl (k34_4, 22, .inr (.inl (fun _ => 0))))] H := hP
  have hD : va_D A [(h0, .inr (9, [.ref a8_1, .ref a17_2, .ref a26_3, .null, .int 0])), (a8_1, .inl (k8_1, 402, .inl (fun _ => 0))), (a17_2, .inl (k17_2, 402, .inl (fun _ => 0))), (a26_3, .inl (k26_3, 402, .inr (.inl (fun _ => 0)))), (a34_4, .inl (k34_4, 22, .inr (.inl (fun _ => 0))))] := hD
  have hK : va_K D vwCl [(k8_1, .int), (k17_2, .int), (k26_3, .long), (k34_4, .long)] s := hK
  refine W.cs (cells' := 4) (slots' := 1228) rfl rfl ?_
  refine va_putF (D := D) (ci := 9) (v := .ref a34_4) (ty := .array .long) (C := RX9) (T := TX9) (N := 5) hx hb hts inX9 tyX9 tyX9_ok nmX9 hown hK hP hD hS 0 rfl rfl 3 (by decide) (hts _ kw_365) (fun _ h9 => h9) rfl hin rfl (by decide +kernel) rfl rfl (Nat.le_of_ble_eq_true rfl) dX9_init_36 (fun H locs hP hD hS => ?_)
  have hP : va_P D vwCl [(h0, .inr (9, [.ref a8_1, .ref a17_2, .ref a26_3, .ref a34_4, .int 0])), (a8_1, .inl (k8_1, 402, .inl (fun _ => 0))), (a17_2, .inl (k17_2, 402, .inl (fun _ => 0))), (a26_3, .inl (k26_3, 402, .inr (.inl (fun _ => 0)))), (a34_4, .inl (k34_4, 22, .inr (.inl (fun _ => 0))))] H := hP
  have hD : va_D A [(h0, .inr (9, [.ref a8_1, .ref a17_2, .ref a26_3, .ref a34_4, .int 0])), (a8_1, .inl (k8_1, 402, .inl (fun _ => 0))), (a17_2, .inl (k17_2, 402, .inl (fun _ => 0))), (a26_3, .inl (k26_3, 402, .inr (.inl (fun _ => 0)))), (a34_4, .inl (k34_4, 22, .inr (.inl (fun _ => 0))))] := hD
  refine lv_iconst (v := 0) hx hb dX9_init_39 (by decide) ?_
  refine lv_istore_n (lv' := [(1, .int 0), (0, .ref h0)]) hx hb dX9_init_40 rfl hl (by decide) rfl (fun ls hl => ?_)
  refine lv_lconst (v := 0) hx hb dX9_init_41 (by decide) ?_
  refine lv_lstore_n (lv' := [(2, .long 0), (1, .int 0), (0, .ref h0)]) hx hb dX9_init_42 rfl hl (by decide) rfl (fun ls hl => ?_)
  refine lv_iconst (v := 0) hx hb dX9_init_43 (by decide) ?_
  refine lv_istore (lv' := [(4, .int 0), (2, .long 0), (1, .int 0), (0, .ref h0)]) hx hb dX9_init_44 hl (by decide) rfl (fun ls hl => ?_)
  have loop : ∀ (k i wd : Nat) (x : Int64) (fw : Nat → Int64) (H : Heap) (locs : List Loc) (ls : Array Slot), i + k = 119 → wd ≤ 22 → va_P D vwCl [(h0, .inr (9, [.ref a8_1, .ref a17_2, .ref a26_3, .ref a34_4, .int 0])), (a8_1, .inl (k8_1, 402, .inl (fun _ => 0))), (a17_2, .inl (k17_2, 402, .inl (fun _ => 0))), (a26_3, .inl (k26_3, 402, .inr (.inl (fun _ => 0)))), (a34_4, .inl (k34_4, 22, .inr (.inl fw)))] H → va_D A [(h0, .inr (9, [.ref a8_1, .ref a17_2, .ref a26_3, .ref a34_4, .int 0])), (a8_1, .inl (k8_1, 402, .inl (fun _ => 0))), (a17_2, .inl (k17_2, 402, .inl (fun _ => 0))), (a26_3, .inl (k26_3, 402, .inr (.inl (fun _ => 0)))), (a34_4, .inl (k34_4, 22, .inr (.inl fw)))] → va_S A s.heap H locs → lv_has ls 6 [(4, .int (nI i)), (2, .long x), (1, .int (nI wd)), (0, .ref h0)] → W p l e (rmU 4 4 1228) s m [Value.ref h0].toArray below meth c H locs 4 1228 Q0 (F0 m 46 ls []) := by
    intro k
    induction k with
    | zero =>
      intro i wd x fw H locs ls hi hwd hP hD hS hl
      obtain rfl : i = 119 := by omega
      refine lv_iload hx hb dX9_init_46 (lv_at hl 0 rfl) ?_
      refine va_ldcS hx hb hown hE.1 dX9_init_48 ?_
      refine re_V (As := []) (rest := [.int (nI 119)]) caV_SignalTable_Tokens_27 hx hb hml hown hts (j_length a v 119 f fm (by decide)) SF_bl (SF_of hE2 hS) (by obtain ⟨cell, h1, h2, h3, _⟩ := hE2.1.kept (fun q h1 h2 => hS.2.1 q h1 h2); exact ⟨cell, h1, h2, h3⟩) (by decide) rfl hl.1 (Nat.le_of_ble_eq_true rfl) (by decide) dX9_init_50 rfl ?_
      refine lv_icmp_ge (tgt := 117) hx hb dX9_init_53 (by decide) (fun _ => ?_) (fun h => absurd (nI_le (Nat.le_refl 119) (by decide)) h)
      rw [← hQ]
      exact wr_v (q := (fun i => match i with | 0 => a8_1 | 1 => a17_2 | 2 => a26_3 | 3 => a34_4 | _ => 0)) (k := (fun i => match i with | 0 => k8_1 | 1 => k17_2 | 2 => k26_3 | _ => k8_1)) (g := (fun _ => fun _ => 0)) (gl := (fun _ => fun _ => 0)) hx hb hr hlocks hS (hP.sub [0, 1, 2, 3] rfl) (hK.sub [0, 1, 2] rfl) (hD.sub [0, 1, 2, 3] (by decide) rfl) dX9_init_117
    | succ k ih =>
      intro i wd x fw H locs ls hi hwd hP hD hS hl
      refine lv_iload hx hb dX9_init_46 (lv_at hl 0 rfl) ?_
      refine va_ldcS hx hb hown hE.1 dX9_init_48 ?_
      refine re_V (As := []) (rest := [.int (nI i)]) caV_SignalTable_Tokens_27 hx hb hml hown hts (j_length a v 119 f fm (by decide)) SF_bl (SF_of hE2 hS) (by obtain ⟨cell, h1, h2, h3, _⟩ := hE2.1.kept (fun q h1 h2 => hS.2.1 q h1 h2); exact ⟨cell, h1, h2, h3⟩) (by decide) rfl hl.1 (Nat.le_of_ble_eq_true rfl) (by decide) dX9_init_50 rfl ?_
      refine lv_icmp_ge (tgt := 117) hx hb dX9_init_53 (by decide) (fun h => absurd h (nI_ge (a := i) (b := 119) (by omega) (by decide))) (fun _ => ?_)
      refine va_ldcS hx hb hown hE.1 dX9_init_56 ?_
      refine lv_iload hx hb dX9_init_58 (lv_at hl 0 rfl) ?_
      refine re_V (As := [.int (nI i)]) (rest := []) caV_SignalTable_Tokens_33 hx hb hml hown hts (j_charAt a v 119 f fm i (by omega) (by decide)) SF_bl (SF_of hE2 hS) (by obtain ⟨cell, h1, h2, h3, _⟩ := hE2.1.kept (fun q h1 h2 => hS.2.1 q h1 h2); exact ⟨cell, h1, h2, h3⟩) (by decide) rfl hl.1 (Nat.le_of_ble_eq_true rfl) (by decide) dX9_init_60 rfl ?_
      refine lv_istore (lv' := [(5, .int (jch f i)), (4, .int (nI i)), (2, .long x), (1, .int (nI wd)), (0, .ref h0)]) hx hb dX9_init_63 hl (by decide) rfl (fun ls hl => ?_)
      refine lv_iload hx hb dX9_init_65 (lv_at hl 0 rfl) ?_
      refine lv_bipush (v := 32) hx hb dX9_init_67 (by decide) ?_
      refine lv_icmp_eq (tgt := 90) hx hb dX9_init_69 (by decide) (fun c_1 => ?_) (fun c_1 => ?_)
      · skip
        refine lv_iload_n hx hb dX9_init_90 rfl (lv_at hl 3 rfl) ?_
        refine lv_aload_n hx hb dX9_init_91 rfl (lv_at hl 4 rfl) ?_
        refine va_get (D := D) (ci := 9) (v := .ref a34_4) (C := RX9) (T := TX9) (N := 5) hx hb hts inX9 hown hK hP 0 rfl rfl 3 (by decide) (hts _ kw_365) (fun _ h9 => h9) rfl dX9_init_92 ?_
        refine va_alen (v := 22) hx hb hK hP 4 3 rfl rfl rfl dX9_init_95 ?_
        refine lv_icmp_ge (tgt := 111) hx hb dX9_init_96 (by decide) (fun c_2 => ?_) (fun c_2 => ?_)
        · skip
          refine lv_iinc (v := (nI (i + 1))) (lv' := [(4, .int (nI (i + 1))), (5, .int (jch f i)), (2, .long x), (1, .int (nI wd)), (0, .ref h0)]) hx hb dX9_init_111 hl (k := 1) rfl (by show (nI i) + 1 = _; exact nI_1 _) (by decide) rfl (fun ls hl => ?_)
          refine lv_goto (tgt := 46) hx hb dX9_init_114 (by decide) ?_
          exact ih (i + 1) wd x fw _ _ _ (by omega) (by omega) hP hD hS (lv_sub hl [0, 2, 3, 4] rfl)
        · skip
          have hwl : wd < 22 := by
            rcases Nat.lt_or_ge wd 22 with q | q
            · exact q
            · exact absurd (nI_le (a := 22) (b := wd) q (by omega)) c_2
          refine lv_aload_n hx hb dX9_init_99 rfl (lv_at hl 4 rfl) ?_
          refine va_get (D := D) (ci := 9) (v := .ref a34_4) (C := RX9) (T := TX9) (N := 5) hx hb hts inX9 hown hK hP 0 rfl rfl 3 (by decide) (hts _ kw_365) (fun _ h9 => h9) rfl dX9_init_100 ?_
          refine lv_iload_n hx hb dX9_init_103 rfl (lv_at hl 3 rfl) ?_
          refine lv_lload_n hx hb dX9_init_104 rfl (lv_at hl 2 rfl) ?_
          refine va_last hx hb hK hP hD hS 4 3 rfl rfl (vp_in_nI (n := wd) (N := 22) (by omega) (by decide)) dX9_init_105 (fun H locs hP hD hS => ?_)
          obtain ⟨f105_5, hf105_5⟩ : ∃ z, z = vp_updL fw (((nI wd) : Int32).toNatClampNeg) x := ⟨_, rfl⟩
          rw [← hf105_5] at hP hD
          have hP : va_P D vwCl [(h0, .inr (9, [.ref a8_1, .ref a17_2, .ref a26_3, .ref a34_4, .int 0])), (a8_1, .inl (k8_1, 402, .inl (fun _ => 0))), (a17_2, .inl (k17_2, 402, .inl (fun _ => 0))), (a26_3, .inl (k26_3, 402, .inr (.inl (fun _ => 0)))), (a34_4, .inl (k34_4, 22, .inr (.inl f105_5)))] H := hP
          have hD : va_D A [(h0, .inr (9, [.ref a8_1, .ref a17_2, .ref a26_3, .ref a34_4, .int 0])), (a8_1, .inl (k8_1, 402, .inl (fun _ => 0))), (a17_2, .inl (k17_2, 402, .inl (fun _ => 0))), (a26_3, .inl (k26_3, 402, .inr (.inl (fun _ => 0)))), (a34_4, .inl (k34_4, 22, .inr (.inl f105_5)))] := hD
          refine lv_iinc (v := (nI (wd + 1))) (lv' := [(1, .int (nI (wd + 1))), (5, .int (jch f i)), (4, .int (nI i)), (2, .long x), (0, .ref h0)]) hx hb dX9_init_106 hl (k := 3) rfl (by show (nI wd) + 1 = _; exact nI_1 _) (by decide) rfl (fun ls hl => ?_)
          refine lv_lconst (v := 0) hx hb dX9_init_109 (by decide) ?_
          refine lv_lstore_n (lv' := [(2, .long 0), (1, .int (nI (wd + 1))), (5, .int (jch f i)), (4, .int (nI i)), (0, .ref h0)]) hx hb dX9_init_110 rfl hl (by decide) rfl (fun ls hl => ?_)
          refine lv_iinc (v := (nI (i + 1))) (lv' := [(4, .int (nI (i + 1))), (2, .long 0), (1, .int (nI (wd + 1))), (5, .int (jch f i)), (0, .ref h0)]) hx hb dX9_init_111 hl (k := 3) rfl (by show (nI i) + 1 = _; exact nI_1 _) (by decide) rfl (fun ls hl => ?_)
          refine lv_goto (tgt := 46) hx hb dX9_init_114 (by decide) ?_
          exact ih (i + 1) (wd + 1) 0 f105_5 _ _ _ (by omega) (by omega) hP hD hS (lv_sub hl [0, 1, 2, 4] rfl)
      · skip
        refine lv_lload_n hx hb dX9_init_72 rfl (lv_at hl 2 rfl) ?_
        refine lv_ldc2 (v := 32) hx hb hown (hts _ kw_358) dX9_init_73 ?_
        refine lv_lmul hx hb dX9_init_76 ?_
        refine lv_iload hx hb dX9_init_77 (lv_at hl 0 rfl) ?_
        refine lv_bipush (v := 97) hx hb dX9_init_79 (by decide) ?_
        refine lv_isub hx hb dX9_init_81 ?_
        refine lv_iconst (v := 1) hx hb dX9_init_82 (by decide) ?_
        refine lv_iadd hx hb dX9_init_83 ?_
        refine lv_i2l (v := (((jch f i) - 97) + 1).toInt64) hx hb dX9_init_84 rfl ?_
        refine lv_ladd hx hb dX9_init_85 ?_
        refine lv_lstore_n (lv' := [(2, .long ((x * 32) + ((((jch f i) - 97) + 1)).toInt64)), (5, .int (jch f i)), (4, .int (nI i)), (1, .int (nI wd)), (0, .ref h0)]) hx hb dX9_init_86 rfl hl (by decide) rfl (fun ls hl => ?_)
        refine lv_goto (tgt := 111) hx hb dX9_init_87 (by decide) ?_
        refine lv_iinc (v := (nI (i + 1))) (lv' := [(4, .int (nI (i + 1))), (2, .long ((x * 32) + ((((jch f i) - 97) + 1)).toInt64)), (5, .int (jch f i)), (1, .int (nI wd)), (0, .ref h0)]) hx hb dX9_init_111 hl (k := 2) rfl (by show (nI i) + 1 = _; exact nI_1 _) (by decide) rfl (fun ls hl => ?_)
        refine lv_goto (tgt := 46) hx hb dX9_init_114 (by decide) ?_
        exact ih (i + 1) wd ((x * 32) + ((((jch f i) - 97) + 1)).toInt64) fw _ _ _ (by omega) (by omega) hP hD hS (lv_sub hl [0, 1, 3, 4] rfl)
  exact loop 119 0 0 0 (fun _ => 0) _ _ _ (by omega) (by omega) hP hD hS (lv_sub hl [0, 1, 2, 3] rfl)
set_option maxHeartbeats 4000000 in
set_option maxRecDepth 100000 in
theorem wX8_init {l : Launch} {D : va_G} {sz : Nat} (h0 : Nat) (a1 : Nat) (a : Nat) (v : Nat) (f : Nat → Int32) (fm : Option Nat) : Wv l yX8_init cX8_init 2 5 6 1239 D [(h0, .inr (8, [.null, .null, .null, .int 0, .int 0, .int 0, .int 0, .int 0, .int 0, .int 0, .int 0]))] [] [.ref h0, .ref a1] sz (ES a v 119 f fm [(h0, .inr (8, [.null, .null, .null, .int 0, .int 0, .int 0, .int 0, .int 0, .int 0, .int 0, .int 0]))]) (fun q k g gl => [(h0, .inr (8, [.ref (q 0), .ref a1, .ref (q 1), .int 0, .int 0, .int 0, .int 0, .int 0, .int (-1), .int 0, .int 0])), ((q 0), .inr (9, [.ref (q 2), .ref (q 3), .ref (q 4), .ref (q 5), .int 0])), ((q 2), .inl ((k 2), 402, .inl (fun _ => 0))), ((q 3), .inl ((k 3), 402, .inl (fun _ => 0))), ((q 4), .inl ((k 4), 402, .inr (.inl (fun _ => 0))))]) (fun k => [((k 2), .int), ((k 3), .int), ((k 4), .long)]) := by
  refine Wv.of (by decide) (Nat.le_of_ble_eq_true rfl) ?_
  intro p e s m below meth c ls A hx hb hr hml hown hts hlocks hin hP hK hD hA hS hE hAe hl
  have hown : s.vm.findClass "SignalTable$Reader" = some m.cls := hown
  have hin : meth.name = "<init>" := hin
  skip
  have hl : lv_has ls 2 [(0, .ref h0), (1, .ref a1)] := hl
  have hE2 : StrF a v 119 f fm A s s.heap := by rw [hAe]; exact hE.2
  refine lv_aload_n hx hb dX8_init_0 rfl (lv_at hl 0 rfl) ?_
  refine W.objInit hx hb hown (hts _ kw_302) (hts _ kw_180) (hts _ kw_181) rfl (by rw [hml]; exact hl.1) rfl dX8_init_1 (by decide) (Nat.le_of_ble_eq_true rfl) ?_
  refine lv_aload_n hx hb dX8_init_4 rfl (lv_at hl 0 rfl) ?_
  refine va_new (D := D) (ci := 9) (fs := [.null, .null, .null, .null, .int 0]) (C := RX9) (T := TX9) (N := 5) hx hb hts inX9 tyX9 tyX9_ok hown (hts _ kw_303) (hts _ kw_304) (hts _ kw_158) hK hP hD hS hA rfl dfX9 (by decide) (by decide) dX8_init_5 (fun a5_1 H hP hD hS => ?_)
  have hP : va_P D vwCl [(h0, .inr (8, [.null, .null, .null, .int 0, .int 0, .int 0, .int 0, .int 0, .int 0, .int 0, .int 0])), (a5_1, .inr (9, [.null, .null, .null, .null, .int 0]))] H := hP
  have hD : va_D A [(h0, .inr (8, [.null, .null, .null, .int 0, .int 0, .int 0, .int 0, .int 0, .int 0, .int 0, .int 0])), (a5_1, .inr (9, [.null, .null, .null, .null, .int 0]))] := hD
  refine W.cs (cells' := 1) (slots' := 5) rfl rfl ?_
  refine lv_dup hx hb dX8_init_8 rfl ?_
  refine wr_I (As := []) (rest := [.ref a5_1, .ref h0]) caI_SignalTable_Reader_11 hx hb hml hown hts hP hD hK hS hA (isC := [1]) (isR := [0]) (isT := []) (wr := [(h0, .inr (8, [.null, .null, .null, .int 0, .int 0, .int 0, .int 0, .int 0, .int 0, .int 0, .int 0]))]) ⟨rfl, rfl, rfl, rfl, by decide⟩ rfl (wX9_init a5_1 a v f fm) ES_bl (ES_of hE.1 hE2 hS (va_free hD hS hA [1] rfl)) (by decide) rfl hl.1 (Nat.le_of_ble_eq_true rfl) (by decide) dX8_init_9 rfl (fun q2 k2 g2 l2 H locs hP hD hK hS => ?_)
  have hP : va_P D vwCl [(h0, .inr (8, [.null, .null, .null, .int 0, .int 0, .int 0, .int 0, .int 0, .int 0, .int 0, .int 0])), (a5_1, .inr (9, [.ref (q2 0), .ref (q2 1), .ref (q2 2), .ref (q2 3), .int 0])), ((q2 0), .inl ((k2 0), 402, .inl (fun _ => 0))), ((q2 1), .inl ((k2 1), 402, .inl (fun _ => 0))), ((q2 2), .inl ((k2 2), 402, .inr (.inl (fun _ => 0))))] H := hP
  have hD : va_D A [(h0, .inr (8, [.null, .null, .null, .int 0, .int 0, .int 0, .int 0, .int 0, .int 0, .int 0, .int 0])), (a5_1, .inr (9, [.ref (q2 0), .ref (q2 1), .ref (q2 2), .ref (q2 3), .int 0])), ((q2 0), .inl ((k2 0), 402, .inl (fun _ => 0))), ((q2 1), .inl ((k2 1), 402, .inl (fun _ => 0))), ((q2 2), .inl ((k2 2), 402, .inr (.inl (fun _ => 0))))] := hD
  have hK : va_K D vwCl [((k2 0), .int), ((k2 1), .int), ((k2 2), .long)] s := hK
  refine W.cs (cells' := 5) (slots' := 1233) rfl rfl ?_
  refine va_putF (D := D) (ci := 8) (v := .ref a5_1) (ty := .object "SignalTable$Tokens") (C := RX8) (T := TX8) (N := 11) hx hb hts inX8 tyX8 tyX8_ok nmX8 hown hK hP hD hS 0 rfl rfl 0 (by decide) (hts _ kw_379) (fun _ h9 => h9) rfl hin rfl (by decide +kernel) rfl rfl (Nat.le_of_ble_eq_true rfl) dX8_init_12 (fun H locs hP hD hS => ?_)
  have hP : va_P D vwCl [(h0, .inr (8, [.ref a5_1, .null, .null, .int 0, .int 0, .int 0, .int 0, .int 0, .int 0, .int 0, .int 0])), (a5_1, .inr (9, [.ref (q2 0), .ref (q2 1), .ref (q2 2), .ref (q2 3), .int 0])), ((q2 0), .inl ((k2 0), 402, .inl (fun _ => 0))), ((q2 1), .inl ((k2 1), 402, .inl (fun _ => 0))), ((q2 2), .inl ((k2 2), 402, .inr (.inl (fun _ => 0))))] H := hP
  have hD : va_D A [(h0, .inr (8, [.ref a5_1, .null, .null, .int 0, .int 0, .int 0, .int 0, .int 0, .int 0, .int 0, .int 0])), (a5_1, .inr (9, [.ref (q2 0), .ref (q2 1), .ref (q2 2), .ref (q2 3), .int 0])), ((q2 0), .inl ((k2 0), 402, .inl (fun _ => 0))), ((q2 1), .inl ((k2 1), 402, .inl (fun _ => 0))), ((q2 2), .inl ((k2 2), 402, .inr (.inl (fun _ => 0))))] := hD
  refine lv_aload_n hx hb dX8_init_15 rfl (lv_at hl 0 rfl) ?_
  refine lv_bipush (v := 6) hx hb dX8_init_16 (by decide) ?_
  refine va_newa (atype := .long) (a0 := (6, .inr (.inl (fun _ => 0)))) (ty := .long) hx hb (hts _ kw_378) rfl hK hP hD hS hA (fun _ => rfl) (by decide) (by decide) (by decide) (by decide) (by decide) dX8_init_18 (fun a18_3 k18_3 H hK hP hD hS => ?_)
  have hP : va_P D vwCl [(h0, .inr (8, [.ref a5_1, .null, .null, .int 0, .int 0, .int 0, .int 0, .int 0, .int 0, .int 0, .int 0])), (a5_1, .inr (9, [.ref (q2 0), .ref (q2 1), .ref (q2 2), .ref (q2 3), .int 0])), ((q2 0), .inl ((k2 0), 402, .inl (fun _ => 0))), ((q2 1), .inl ((k2 1), 402, .inl (fun _ => 0))), ((q2 2), .inl ((k2 2), 402, .inr (.inl (fun _ => 0)))), (a18_3, .inl (k18_3, 6, .inr (.inl (fun _ => 0))))] H := hP
  have hD : va_D A [(h0, .inr (8, [.ref a5_1, .null, .null, .int 0, .int 0, .int 0, .int 0, .int 0, .int 0, .int 0, .int 0])), (a5_1, .inr (9, [.ref (q2 0), .ref (q2 1), .ref (q2 2), .ref (q2 3), .int 0])), ((q2 0), .inl ((k2 0), 402, .inl (fun _ => 0))), ((q2 1), .inl ((k2 1), 402, .inl (fun _ => 0))), ((q2 2), .inl ((k2 2), 402, .inr (.inl (fun _ => 0)))), (a18_3, .inl (k18_3, 6, .inr (.inl (fun _ => 0))))] := hD
  have hK : va_K D vwCl [((k2 0), .int), ((k2 1), .int), ((k2 2), .long), (k18_3, .long)] s := hK
  refine W.cs (cells' := 6) (slots' := 1239) rfl rfl ?_
  refine va_putF (D := D) (ci := 8) (v := .ref a18_3) (ty := .array .long) (C := RX8) (T := TX8) (N := 11) hx hb hts inX8 tyX8 tyX8_ok nmX8 hown hK hP hD hS 0 rfl rfl 2 (by decide) (hts _ kw_381) (fun _ h9 => h9) rfl hin rfl (by decide +kernel) rfl rfl (Nat.le_of_ble_eq_true rfl) dX8_init_20 (fun H locs hP hD hS => ?_)
  have hP : va_P D vwCl [(h0, .inr (8, [.ref a5_1, .null, .ref a18_3, .int 0, .int 0, .int 0, .int 0, .int 0, .int 0, .int 0, .int 0])), (a5_1, .inr (9, [.ref (q2 0), .ref (q2 1), .ref (q2 2), .ref (q2 3), .int 0])), ((q2 0), .inl ((k2 0), 402, .inl (fun _ => 0))), ((q2 1), .inl ((k2 1), 402, .inl (fun _ => 0))), ((q2 2), .inl ((k2 2), 402, .inr (.inl (fun _ => 0)))), (a18_3, .inl (k18_3, 6, .inr (.inl (fun _ => 0))))] H := hP
  have hD : va_D A [(h0, .inr (8, [.ref a5_1, .null, .ref a18_3, .int 0, .int 0, .int 0, .int 0, .int 0, .int 0, .int 0, .int 0])), (a5_1, .inr (9, [.ref (q2 0), .ref (q2 1), .ref (q2 2), .ref (q2 3), .int 0])), ((q2 0), .inl ((k2 0), 402, .inl (fun _ => 0))), ((q2 1), .inl ((k2 1), 402, .inl (fun _ => 0))), ((q2 2), .inl ((k2 2), 402, .inr (.inl (fun _ => 0)))), (a18_3, .inl (k18_3, 6, .inr (.inl (fun _ => 0))))] := hD
  refine lv_aload_n hx hb dX8_init_23 rfl (lv_at hl 0 rfl) ?_
  refine lv_iconst (v := (-1)) hx hb dX8_init_24 (by decide) ?_
  refine va_put (D := D) (ci := 8) (v := .int (-1)) (ty := .int) (C := RX8) (T := TX8) (N := 11) hx hb hts inX8 tyX8 tyX8_ok nmX8 hown hK hP hD hS 0 rfl rfl 8 (by decide) (hts _ kw_387) (fun _ h9 => h9) rfl (by decide +kernel) rfl rfl (Nat.le_of_ble_eq_true rfl) dX8_init_25 (fun H locs hP hD hS => ?_)
  have hP : va_P D vwCl [(h0, .inr (8, [.ref a5_1, .null, .ref a18_3, .int 0, .int 0, .int 0, .int 0, .int 0, .int (-1), .int 0, .int 0])), (a5_1, .inr (9, [.ref (q2 0), .ref (q2 1), .ref (q2 2), .ref (q2 3), .int 0])), ((q2 0), .inl ((k2 0), 402, .inl (fun _ => 0))), ((q2 1), .inl ((k2 1), 402, .inl (fun _ => 0))), ((q2 2), .inl ((k2 2), 402, .inr (.inl (fun _ => 0)))), (a18_3, .inl (k18_3, 6, .inr (.inl (fun _ => 0))))] H := hP
  have hD : va_D A [(h0, .inr (8, [.ref a5_1, .null, .ref a18_3, .int 0, .int 0, .int 0, .int 0, .int 0, .int (-1), .int 0, .int 0])), (a5_1, .inr (9, [.ref (q2 0), .ref (q2 1), .ref (q2 2), .ref (q2 3), .int 0])), ((q2 0), .inl ((k2 0), 402, .inl (fun _ => 0))), ((q2 1), .inl ((k2 1), 402, .inl (fun _ => 0))), ((q2 2), .inl ((k2 2), 402, .inr (.inl (fun _ => 0)))), (a18_3, .inl (k18_3, 6, .inr (.inl (fun _ => 0))))] := hD
  refine lv_aload_n hx hb dX8_init_28 rfl (lv_at hl 0 rfl) ?_
  refine lv_aload_n hx hb dX8_init_29 rfl (lv_at hl 1 rfl) ?_
  refine va_putF (D := D) (ci := 8) (v := .ref a1) (ty := .object "SignalTable$Laws") (C := RX8) (T := TX8) (N := 11) hx hb hts inX8 tyX8 tyX8_ok nmX8 hown hK hP hD hS 0 rfl rfl 1 (by decide) (hts _ kw_380) (fun _ h9 => h9) rfl hin rfl (by decide +kernel) rfl rfl (Nat.le_of_ble_eq_true rfl) dX8_init_30 (fun H locs hP hD hS => ?_)
  have hP : va_P D vwCl [(h0, .inr (8, [.ref a5_1, .ref a1, .ref a18_3, .int 0, .int 0, .int 0, .int 0, .int 0, .int (-1), .int 0, .int 0])), (a5_1, .inr (9, [.ref (q2 0), .ref (q2 1), .ref (q2 2), .ref (q2 3), .int 0])), ((q2 0), .inl ((k2 0), 402, .inl (fun _ => 0))), ((q2 1), .inl ((k2 1), 402, .inl (fun _ => 0))), ((q2 2), .inl ((k2 2), 402, .inr (.inl (fun _ => 0)))), (a18_3, .inl (k18_3, 6, .inr (.inl (fun _ => 0))))] H := hP
  have hD : va_D A [(h0, .inr (8, [.ref a5_1, .ref a1, .ref a18_3, .int 0, .int 0, .int 0, .int 0, .int 0, .int (-1), .int 0, .int 0])), (a5_1, .inr (9, [.ref (q2 0), .ref (q2 1), .ref (q2 2), .ref (q2 3), .int 0])), ((q2 0), .inl ((k2 0), 402, .inl (fun _ => 0))), ((q2 1), .inl ((k2 1), 402, .inl (fun _ => 0))), ((q2 2), .inl ((k2 2), 402, .inr (.inl (fun _ => 0)))), (a18_3, .inl (k18_3, 6, .inr (.inl (fun _ => 0))))] := hD
  exact wr_v (q := (fun i => match i with | 0 => a5_1 | 1 => a18_3 | 2 => (q2 0) | 3 => (q2 1) | 4 => (q2 2) | 5 => (q2 3) | _ => 0)) (k := (fun i => match i with | 2 => (k2 0) | 3 => (k2 1) | 4 => (k2 2) | _ => (k2 0))) (g := (fun _ => fun _ => 0)) (gl := (fun _ => fun _ => 0)) hx hb hr hlocks hS (hP.sub [0, 1, 2, 3, 4] rfl) (hK.sub [0, 1, 2] rfl) (hD.sub [0, 1, 2, 3, 4] (by decide) rfl) dX8_init_33
end
section
/-! names -/
abbrev cJ6_numberOfTrailingZeros_0f7a4 : ByteArray := prog_15_method_48_code
def yJ6_numberOfTrailingZeros_0f7a4 : MethodName := ⟨"java/lang/Integer", "numberOfTrailingZeros", "(I)I"⟩
abbrev cX5_clear : ByteArray := prog_7_method_2_code
def yX5_clear : MethodName := ⟨RX5, "clear", "()V"⟩
abbrev cX5_listHands : ByteArray := prog_7_method_7_code
def yX5_listHands : MethodName := ⟨RX5, "listHands", "()V"⟩
abbrev cX5_settle : ByteArray := prog_7_method_6_code
def yX5_settle : MethodName := ⟨RX5, "settle", "()V"⟩
theorem kw_0 : Cond.selects "SignalTable$Laws" yX5_listHands yX5_listHands ∈ lwg := wu_mem (i := 0) (by decide +kernel) rfl
theorem kw_155 : Cond.initialized "SignalTable$Laws" ∈ lwg := wu_mem (i := 155) (by decide +kernel) rfl
theorem kw_170 : Cond.initialized "java/lang/Integer" ∈ lwg := wu_mem (i := 170) (by decide +kernel) rfl
theorem kw_188 : Cond.fieldLink "SignalTable$Laws" 38 "SignalTable$Laws" "suits" "I" ∈ lwg := wu_mem (i := 188) (by decide +kernel) rfl
theorem kw_192 : Cond.fieldLink "SignalTable$Laws" 42 "SignalTable$Laws" "ranks" "I" ∈ lwg := wu_mem (i := 192) (by decide +kernel) rfl
theorem kw_195 : Cond.fieldLink "SignalTable$Laws" 45 "SignalTable$Laws" "trump" "I" ∈ lwg := wu_mem (i := 195) (by decide +kernel) rfl
theorem kw_201 : Cond.fieldLink "SignalTable$Laws" 48 "SignalTable$Laws" "customs" "I" ∈ lwg := wu_mem (i := 201) (by decide +kernel) rfl
theorem kw_218 : Cond.fieldLink "SignalTable$Laws" 51 "SignalTable$Laws" "steps" "I" ∈ lwg := wu_mem (i := 218) (by decide +kernel) rfl
theorem kw_222 : Cond.fieldLink "SignalTable$Laws" 54 "SignalTable$Laws" "cards" "I" ∈ lwg := wu_mem (i := 222) (by decide +kernel) rfl
theorem kw_229 : Cond.fieldLink "SignalTable$Laws" 57 "SignalTable$Laws" "handSize" "I" ∈ lwg := wu_mem (i := 229) (by decide +kernel) rfl
theorem kw_245 : Cond.fieldLink "SignalTable$Laws" 63 "SignalTable$Laws" "handCount" "I" ∈ lwg := wu_mem (i := 245) (by decide +kernel) rfl
theorem kw_699 : Cond.methodLink "SignalTable$Laws" 60 yX5_listHands ∈ lwg := wu_mem (i := 699) (by decide +kernel) rfl
theorem kw_701 : Cond.instanceMethod yX5_listHands ∈ lwg := wu_mem (i := 701) (by decide +kernel) rfl
theorem kw_702 : Cond.code yX5_listHands cX5_listHands 5 none ∈ lwg := wu_mem (i := 702) (by decide +kernel) rfl
theorem kw_703 : Cond.methodLink "SignalTable$Laws" 66 yJ6_numberOfTrailingZeros_0f7a4 ∈ lwg := wu_mem (i := 703) (by decide +kernel) rfl
theorem kw_704 : Cond.static yJ6_numberOfTrailingZeros_0f7a4 ∈ lwg := wu_mem (i := 704) (by decide +kernel) rfl
theorem kw_705 : Cond.code yJ6_numberOfTrailingZeros_0f7a4 cJ6_numberOfTrailingZeros_0f7a4 2 (some .int) ∈ lwg := wu_mem (i := 705) (by decide +kernel) rfl
theorem kw_706 : Cond.constant "java/lang/Integer" 264 65536 ∈ lwg := wu_mem (i := 706) (by decide +kernel) rfl
theorem caS_SignalTable_Laws_66 : CaS "SignalTable$Laws" 66 yJ6_numberOfTrailingZeros_0f7a4 cJ6_numberOfTrailingZeros_0f7a4 2 (some .int) 1 := ⟨kw_703, kw_704, kw_170, kw_705, by decide +kernel, by decide +kernel, by decide +kernel⟩
theorem caV_SignalTable_Laws_60 : CaV "SignalTable$Laws" RX5 60 yX5_listHands cX5_listHands 5 none 0 := ⟨kw_699, kw_701, kw_0, kw_155, kw_702, rfl, by decide +kernel, by decide +kernel, by decide +kernel⟩
theorem dJ6_numberOfTrailingZeros_0f7a4_0 : decode cJ6_numberOfTrailingZeros_0f7a4 0 = .ok (.iload_n 0, 1) := by decide +kernel
theorem dJ6_numberOfTrailingZeros_0f7a4_1 : decode cJ6_numberOfTrailingZeros_0f7a4 1 = .ok (.iconst (-1), 1) := by decide +kernel
theorem dJ6_numberOfTrailingZeros_0f7a4_2 : decode cJ6_numberOfTrailingZeros_0f7a4 2 = .ok (.ixor, 1) := by decide +kernel
theorem dJ6_numberOfTrailingZeros_0f7a4_3 : decode cJ6_numberOfTrailingZeros_0f7a4 3 = .ok (.iload_n 0, 1) := by decide +kernel
theorem dJ6_numberOfTrailingZeros_0f7a4_4 : decode cJ6_numberOfTrailingZeros_0f7a4 4 = .ok (.iconst 1, 1) := by decide +kernel
theorem dJ6_numberOfTrailingZeros_0f7a4_5 : decode cJ6_numberOfTrailingZeros_0f7a4 5 = .ok (.isub, 1) := by decide +kernel
theorem dJ6_numberOfTrailingZeros_0f7a4_6 : decode cJ6_numberOfTrailingZeros_0f7a4 6 = .ok (.iand, 1) := by decide +kernel
theorem dJ6_numberOfTrailingZeros_0f7a4_7 : decode cJ6_numberOfTrailingZeros_0f7a4 7 = .ok (.istore_n 0, 1) := by decide +kernel
theorem dJ6_numberOfTrailingZeros_0f7a4_8 : decode cJ6_numberOfTrailingZeros_0f7a4 8 = .ok (.iload_n 0, 1) := by decide +kernel
theorem dJ6_numberOfTrailingZeros_0f7a4_9 : decode cJ6_numberOfTrailingZeros_0f7a4 9 = .ok (.ifCond .gt 8, 3) := by decide +kernel
theorem dJ6_numberOfTrailingZeros_0f7a4_12 : decode cJ6_numberOfTrailingZeros_0f7a4 12 = .ok (.iload_n 0, 1) := by decide +kernel
theorem dJ6_numberOfTrailingZeros_0f7a4_13 : decode cJ6_numberOfTrailingZeros_0f7a4 13 = .ok (.bipush 32, 2) := by decide +kernel
theorem dJ6_numberOfTrailingZeros_0f7a4_15 : decode cJ6_numberOfTrailingZeros_0f7a4 15 = .ok (.iand, 1) := by decide +kernel
theorem dJ6_numberOfTrailingZeros_0f7a4_16 : decode cJ6_numberOfTrailingZeros_0f7a4 16 = .ok (.ireturn, 1) := by decide +kernel
theorem dJ6_numberOfTrailingZeros_0f7a4_17 : decode cJ6_numberOfTrailingZeros_0f7a4 17 = .ok (.iconst 1, 1) := by decide +kernel
theorem dJ6_numberOfTrailingZeros_0f7a4_18 : decode cJ6_numberOfTrailingZeros_0f7a4 18 = .ok (.istore_n 1, 1) := by decide +kernel
theorem dJ6_numberOfTrailingZeros_0f7a4_19 : decode cJ6_numberOfTrailingZeros_0f7a4 19 = .ok (.iload_n 0, 1) := by decide +kernel
theorem dJ6_numberOfTrailingZeros_0f7a4_20 : decode cJ6_numberOfTrailingZeros_0f7a4 20 = .ok (.ldc_w 264, 3) := by decide +kernel
theorem dJ6_numberOfTrailingZeros_0f7a4_23 : decode cJ6_numberOfTrailingZeros_0f7a4 23 = .ok (.if_icmp .le 11, 3) := by decide +kernel
theorem dJ6_numberOfTrailingZeros_0f7a4_34 : decode cJ6_numberOfTrailingZeros_0f7a4 34 = .ok (.iload_n 0, 1) := by decide +kernel
theorem dJ6_numberOfTrailingZeros_0f7a4_35 : decode cJ6_numberOfTrailingZeros_0f7a4 35 = .ok (.sipush 256, 3) := by decide +kernel
theorem dJ6_numberOfTrailingZeros_0f7a4_38 : decode cJ6_numberOfTrailingZeros_0f7a4 38 = .ok (.if_icmp .le 11, 3) := by decide +kernel
theorem dJ6_numberOfTrailingZeros_0f7a4_41 : decode cJ6_numberOfTrailingZeros_0f7a4 41 = .ok (.iinc 1 8, 3) := by decide +kernel
theorem dJ6_numberOfTrailingZeros_0f7a4_44 : decode cJ6_numberOfTrailingZeros_0f7a4 44 = .ok (.iload_n 0, 1) := by decide +kernel
theorem dJ6_numberOfTrailingZeros_0f7a4_45 : decode cJ6_numberOfTrailingZeros_0f7a4 45 = .ok (.bipush 8, 2) := by decide +kernel
theorem dJ6_numberOfTrailingZeros_0f7a4_47 : decode cJ6_numberOfTrailingZeros_0f7a4 47 = .ok (.iushr, 1) := by decide +kernel
theorem dJ6_numberOfTrailingZeros_0f7a4_48 : decode cJ6_numberOfTrailingZeros_0f7a4 48 = .ok (.istore_n 0, 1) := by decide +kernel
theorem dJ6_numberOfTrailingZeros_0f7a4_49 : decode cJ6_numberOfTrailingZeros_0f7a4 49 = .ok (.iload_n 0, 1) := by decide +kernel
theorem dJ6_numberOfTrailingZeros_0f7a4_50 : decode cJ6_numberOfTrailingZeros_0f7a4 50 = .ok (.bipush 16, 2) := by decide +kernel
theorem dJ6_numberOfTrailingZeros_0f7a4_52 : decode cJ6_numberOfTrailingZeros_0f7a4 52 = .ok (.if_icmp .le 10, 3) := by decide +kernel
theorem dJ6_numberOfTrailingZeros_0f7a4_55 : decode cJ6_numberOfTrailingZeros_0f7a4 55 = .ok (.iinc 1 4, 3) := by decide +kernel
theorem dJ6_numberOfTrailingZeros_0f7a4_58 : decode cJ6_numberOfTrailingZeros_0f7a4 58 = .ok (.iload_n 0, 1) := by decide +kernel
theorem dJ6_numberOfTrailingZeros_0f7a4_59 : decode cJ6_numberOfTrailingZeros_0f7a4 59 = .ok (.iconst 4, 1) := by decide +kernel
theorem dJ6_numberOfTrailingZeros_0f7a4_60 : decode cJ6_numberOfTrailingZeros_0f7a4 60 = .ok (.iushr, 1) := by decide +kernel
theorem dJ6_numberOfTrailingZeros_0f7a4_61 : decode cJ6_numberOfTrailingZeros_0f7a4 61 = .ok (.istore_n 0, 1) := by decide +kernel
theorem dJ6_numberOfTrailingZeros_0f7a4_62 : decode cJ6_numberOfTrailingZeros_0f7a4 62 = .ok (.iload_n 0, 1) := by decide +kernel
theorem dJ6_numberOfTrailingZeros_0f7a4_63 : decode cJ6_numberOfTrailingZeros_0f7a4 63 = .ok (.iconst 4, 1) := by decide +kernel
theorem dJ6_numberOfTrailingZeros_0f7a4_64 : decode cJ6_numberOfTrailingZeros_0f7a4 64 = .ok (.if_icmp .le 10, 3) := by decide +kernel
theorem dJ6_numberOfTrailingZeros_0f7a4_67 : decode cJ6_numberOfTrailingZeros_0f7a4 67 = .ok (.iinc 1 2, 3) := by decide +kernel
theorem dJ6_numberOfTrailingZeros_0f7a4_70 : decode cJ6_numberOfTrailingZeros_0f7a4 70 = .ok (.iload_n 0, 1) := by decide +kernel
theorem dJ6_numberOfTrailingZeros_0f7a4_71 : decode cJ6_numberOfTrailingZeros_0f7a4 71 = .ok (.iconst 2, 1) := by decide +kernel
theorem dJ6_numberOfTrailingZeros_0f7a4_72 : decode cJ6_numberOfTrailingZeros_0f7a4 72 = .ok (.iushr, 1) := by decide +kernel
theorem dJ6_numberOfTrailingZeros_0f7a4_73 : decode cJ6_numberOfTrailingZeros_0f7a4 73 = .ok (.istore_n 0, 1) := by decide +kernel
theorem dJ6_numberOfTrailingZeros_0f7a4_74 : decode cJ6_numberOfTrailingZeros_0f7a4 74 = .ok (.iload_n 1, 1) := by decide +kernel
theorem dJ6_numberOfTrailingZeros_0f7a4_75 : decode cJ6_numberOfTrailingZeros_0f7a4 75 = .ok (.iload_n 0, 1) := by decide +kernel
theorem dJ6_numberOfTrailingZeros_0f7a4_76 : decode cJ6_numberOfTrailingZeros_0f7a4 76 = .ok (.iconst 1, 1) := by decide +kernel
theorem dJ6_numberOfTrailingZeros_0f7a4_77 : decode cJ6_numberOfTrailingZeros_0f7a4 77 = .ok (.iushr, 1) := by decide +kernel
theorem dJ6_numberOfTrailingZeros_0f7a4_78 : decode cJ6_numberOfTrailingZeros_0f7a4 78 = .ok (.iadd, 1) := by decide +kernel
theorem dJ6_numberOfTrailingZeros_0f7a4_79 : decode cJ6_numberOfTrailingZeros_0f7a4 79 = .ok (.ireturn, 1) := by decide +kernel
theorem dX5_clear_0 : decode cX5_clear 0 = .ok (.aload_n 0, 1) := by decide +kernel
theorem dX5_clear_1 : decode cX5_clear 1 = .ok (.iconst 4, 1) := by decide +kernel
theorem dX5_clear_2 : decode cX5_clear 2 = .ok (.putfield 38, 3) := by decide +kernel
theorem dX5_clear_5 : decode cX5_clear 5 = .ok (.aload_n 0, 1) := by decide +kernel
theorem dX5_clear_6 : decode cX5_clear 6 = .ok (.iconst 4, 1) := by decide +kernel
theorem dX5_clear_7 : decode cX5_clear 7 = .ok (.putfield 42, 3) := by decide +kernel
theorem dX5_clear_10 : decode cX5_clear 10 = .ok (.aload_n 0, 1) := by decide +kernel
theorem dX5_clear_11 : decode cX5_clear 11 = .ok (.iconst (-1), 1) := by decide +kernel
theorem dX5_clear_12 : decode cX5_clear 12 = .ok (.putfield 45, 3) := by decide +kernel
theorem dX5_clear_15 : decode cX5_clear 15 = .ok (.aload_n 0, 1) := by decide +kernel
theorem dX5_clear_16 : decode cX5_clear 16 = .ok (.iconst 0, 1) := by decide +kernel
theorem dX5_clear_17 : decode cX5_clear 17 = .ok (.putfield 48, 3) := by decide +kernel
theorem dX5_clear_20 : decode cX5_clear 20 = .ok (.aload_n 0, 1) := by decide +kernel
theorem dX5_clear_21 : decode cX5_clear 21 = .ok (.iconst 0, 1) := by decide +kernel
theorem dX5_clear_22 : decode cX5_clear 22 = .ok (.putfield 51, 3) := by decide +kernel
theorem dX5_clear_25 : decode cX5_clear 25 = .ok (.return_, 1) := by decide +kernel
theorem dX5_listHands_0 : decode cX5_listHands 0 = .ok (.aload_n 0, 1) := by decide +kernel
theorem dX5_listHands_1 : decode cX5_listHands 1 = .ok (.iconst 0, 1) := by decide +kernel
theorem dX5_listHands_2 : decode cX5_listHands 2 = .ok (.putfield 63, 3) := by decide +kernel
theorem dX5_listHands_5 : decode cX5_listHands 5 = .ok (.iconst 1, 1) := by decide +kernel
theorem dX5_listHands_6 : decode cX5_listHands 6 = .ok (.aload_n 0, 1) := by decide +kernel
theorem dX5_listHands_7 : decode cX5_listHands 7 = .ok (.getfield 57, 3) := by decide +kernel
theorem dX5_listHands_10 : decode cX5_listHands 10 = .ok (.ishl, 1) := by decide +kernel
theorem dX5_listHands_11 : decode cX5_listHands 11 = .ok (.iconst 1, 1) := by decide +kernel
theorem dX5_listHands_12 : decode cX5_listHands 12 = .ok (.isub, 1) := by decide +kernel
theorem dX5_listHands_13 : decode cX5_listHands 13 = .ok (.istore_n 1, 1) := by decide +kernel
theorem dX5_listHands_14 : decode cX5_listHands 14 = .ok (.iconst 0, 1) := by decide +kernel
theorem dX5_listHands_15 : decode cX5_listHands 15 = .ok (.istore_n 2, 1) := by decide +kernel
theorem dX5_listHands_16 : decode cX5_listHands 16 = .ok (.iload_n 2, 1) := by decide +kernel
theorem dX5_listHands_17 : decode cX5_listHands 17 = .ok (.aload_n 0, 1) := by decide +kernel
theorem dX5_listHands_18 : decode cX5_listHands 18 = .ok (.getfield 35, 3) := by decide +kernel
theorem dX5_listHands_21 : decode cX5_listHands 21 = .ok (.arraylength, 1) := by decide +kernel
theorem dX5_listHands_22 : decode cX5_listHands 22 = .ok (.if_icmp .ge 61, 3) := by decide +kernel
theorem dX5_listHands_25 : decode cX5_listHands 25 = .ok (.iload_n 1, 1) := by decide +kernel
theorem dX5_listHands_26 : decode cX5_listHands 26 = .ok (.iconst 1, 1) := by decide +kernel
theorem dX5_listHands_27 : decode cX5_listHands 27 = .ok (.aload_n 0, 1) := by decide +kernel
theorem dX5_listHands_28 : decode cX5_listHands 28 = .ok (.getfield 54, 3) := by decide +kernel
theorem dX5_listHands_31 : decode cX5_listHands 31 = .ok (.ishl, 1) := by decide +kernel
theorem dX5_listHands_32 : decode cX5_listHands 32 = .ok (.if_icmp .ge 51, 3) := by decide +kernel
theorem dX5_listHands_35 : decode cX5_listHands 35 = .ok (.aload_n 0, 1) := by decide +kernel
theorem dX5_listHands_36 : decode cX5_listHands 36 = .ok (.getfield 35, 3) := by decide +kernel
theorem dX5_listHands_39 : decode cX5_listHands 39 = .ok (.iload_n 2, 1) := by decide +kernel
theorem dX5_listHands_40 : decode cX5_listHands 40 = .ok (.iload_n 1, 1) := by decide +kernel
theorem dX5_listHands_41 : decode cX5_listHands 41 = .ok (.iastore, 1) := by decide +kernel
theorem dX5_listHands_42 : decode cX5_listHands 42 = .ok (.aload_n 0, 1) := by decide +kernel
theorem dX5_listHands_43 : decode cX5_listHands 43 = .ok (.dup, 1) := by decide +kernel
theorem dX5_listHands_44 : decode cX5_listHands 44 = .ok (.getfield 63, 3) := by decide +kernel
theorem dX5_listHands_47 : decode cX5_listHands 47 = .ok (.iconst 1, 1) := by decide +kernel
theorem dX5_listHands_48 : decode cX5_listHands 48 = .ok (.iadd, 1) := by decide +kernel
theorem dX5_listHands_49 : decode cX5_listHands 49 = .ok (.putfield 63, 3) := by decide +kernel
theorem dX5_listHands_52 : decode cX5_listHands 52 = .ok (.iload_n 1, 1) := by decide +kernel
theorem dX5_listHands_53 : decode cX5_listHands 53 = .ok (.iload_n 1, 1) := by decide +kernel
theorem dX5_listHands_54 : decode cX5_listHands 54 = .ok (.ineg, 1) := by decide +kernel
theorem dX5_listHands_55 : decode cX5_listHands 55 = .ok (.iand, 1) := by decide +kernel
theorem dX5_listHands_56 : decode cX5_listHands 56 = .ok (.istore_n 3, 1) := by decide +kernel
theorem dX5_listHands_57 : decode cX5_listHands 57 = .ok (.iload_n 1, 1) := by decide +kernel
theorem dX5_listHands_58 : decode cX5_listHands 58 = .ok (.iload_n 3, 1) := by decide +kernel
theorem dX5_listHands_59 : decode cX5_listHands 59 = .ok (.iadd, 1) := by decide +kernel
theorem dX5_listHands_60 : decode cX5_listHands 60 = .ok (.istore 4, 2) := by decide +kernel
theorem dX5_listHands_62 : decode cX5_listHands 62 = .ok (.iload 4, 2) := by decide +kernel
theorem dX5_listHands_64 : decode cX5_listHands 64 = .ok (.iload_n 1, 1) := by decide +kernel
theorem dX5_listHands_65 : decode cX5_listHands 65 = .ok (.iload 4, 2) := by decide +kernel
theorem dX5_listHands_67 : decode cX5_listHands 67 = .ok (.ixor, 1) := by decide +kernel
theorem dX5_listHands_68 : decode cX5_listHands 68 = .ok (.iconst 2, 1) := by decide +kernel
theorem dX5_listHands_69 : decode cX5_listHands 69 = .ok (.iload_n 3, 1) := by decide +kernel
theorem dX5_listHands_70 : decode cX5_listHands 70 = .ok (.invokestatic 66, 3) := by decide +kernel
theorem dX5_listHands_73 : decode cX5_listHands 73 = .ok (.iadd, 1) := by decide +kernel
theorem dX5_listHands_74 : decode cX5_listHands 74 = .ok (.iushr, 1) := by decide +kernel
theorem dX5_listHands_75 : decode cX5_listHands 75 = .ok (.ior, 1) := by decide +kernel
theorem dX5_listHands_76 : decode cX5_listHands 76 = .ok (.istore_n 1, 1) := by decide +kernel
theorem dX5_listHands_77 : decode cX5_listHands 77 = .ok (.iinc 2 1, 3) := by decide +kernel
theorem dX5_listHands_80 : decode cX5_listHands 80 = .ok (.goto (-64), 3) := by decide +kernel
theorem dX5_listHands_83 : decode cX5_listHands 83 = .ok (.return_, 1) := by decide +kernel
theorem dX5_settle_0 : decode cX5_settle 0 = .ok (.aload_n 0, 1) := by decide +kernel
theorem dX5_settle_1 : decode cX5_settle 1 = .ok (.aload_n 0, 1) := by decide +kernel
theorem dX5_settle_2 : decode cX5_settle 2 = .ok (.getfield 38, 3) := by decide +kernel
theorem dX5_settle_5 : decode cX5_settle 5 = .ok (.aload_n 0, 1) := by decide +kernel
theorem dX5_settle_6 : decode cX5_settle 6 = .ok (.getfield 42, 3) := by decide +kernel
theorem dX5_settle_9 : decode cX5_settle 9 = .ok (.imul, 1) := by decide +kernel
theorem dX5_settle_10 : decode cX5_settle 10 = .ok (.putfield 54, 3) := by decide +kernel
theorem dX5_settle_13 : decode cX5_settle 13 = .ok (.aload_n 0, 1) := by decide +kernel
theorem dX5_settle_14 : decode cX5_settle 14 = .ok (.aload_n 0, 1) := by decide +kernel
theorem dX5_settle_15 : decode cX5_settle 15 = .ok (.getfield 54, 3) := by decide +kernel
theorem dX5_settle_18 : decode cX5_settle 18 = .ok (.iconst 4, 1) := by decide +kernel
theorem dX5_settle_19 : decode cX5_settle 19 = .ok (.idiv, 1) := by decide +kernel
theorem dX5_settle_20 : decode cX5_settle 20 = .ok (.putfield 57, 3) := by decide +kernel
theorem dX5_settle_23 : decode cX5_settle 23 = .ok (.aload_n 0, 1) := by decide +kernel
theorem dX5_settle_24 : decode cX5_settle 24 = .ok (.getfield 45, 3) := by decide +kernel
theorem dX5_settle_27 : decode cX5_settle 27 = .ok (.aload_n 0, 1) := by decide +kernel
theorem dX5_settle_28 : decode cX5_settle 28 = .ok (.getfield 38, 3) := by decide +kernel
theorem dX5_settle_31 : decode cX5_settle 31 = .ok (.if_icmp .lt 8, 3) := by decide +kernel
theorem dX5_settle_39 : decode cX5_settle 39 = .ok (.iconst 0, 1) := by decide +kernel
theorem dX5_settle_40 : decode cX5_settle 40 = .ok (.istore_n 1, 1) := by decide +kernel
theorem dX5_settle_41 : decode cX5_settle 41 = .ok (.iload_n 1, 1) := by decide +kernel
theorem dX5_settle_42 : decode cX5_settle 42 = .ok (.aload_n 0, 1) := by decide +kernel
theorem dX5_settle_43 : decode cX5_settle 43 = .ok (.getfield 29, 3) := by decide +kernel
theorem dX5_settle_46 : decode cX5_settle 46 = .ok (.arraylength, 1) := by decide +kernel
theorem dX5_settle_47 : decode cX5_settle 47 = .ok (.if_icmp .ge 42, 3) := by decide +kernel
theorem dX5_settle_50 : decode cX5_settle 50 = .ok (.aload_n 0, 1) := by decide +kernel
theorem dX5_settle_51 : decode cX5_settle 51 = .ok (.getfield 29, 3) := by decide +kernel
theorem dX5_settle_54 : decode cX5_settle 54 = .ok (.iload_n 1, 1) := by decide +kernel
theorem dX5_settle_55 : decode cX5_settle 55 = .ok (.iload_n 1, 1) := by decide +kernel
theorem dX5_settle_56 : decode cX5_settle 56 = .ok (.aload_n 0, 1) := by decide +kernel
theorem dX5_settle_57 : decode cX5_settle 57 = .ok (.getfield 38, 3) := by decide +kernel
theorem dX5_settle_60 : decode cX5_settle 60 = .ok (.if_icmp .ge 21, 3) := by decide +kernel
theorem dX5_settle_63 : decode cX5_settle 63 = .ok (.iconst 1, 1) := by decide +kernel
theorem dX5_settle_64 : decode cX5_settle 64 = .ok (.aload_n 0, 1) := by decide +kernel
theorem dX5_settle_65 : decode cX5_settle 65 = .ok (.getfield 42, 3) := by decide +kernel
theorem dX5_settle_68 : decode cX5_settle 68 = .ok (.ishl, 1) := by decide +kernel
theorem dX5_settle_69 : decode cX5_settle 69 = .ok (.iconst 1, 1) := by decide +kernel
theorem dX5_settle_70 : decode cX5_settle 70 = .ok (.isub, 1) := by decide +kernel
theorem dX5_settle_71 : decode cX5_settle 71 = .ok (.iload_n 1, 1) := by decide +kernel
theorem dX5_settle_72 : decode cX5_settle 72 = .ok (.aload_n 0, 1) := by decide +kernel
theorem dX5_settle_73 : decode cX5_settle 73 = .ok (.getfield 42, 3) := by decide +kernel
theorem dX5_settle_76 : decode cX5_settle 76 = .ok (.imul, 1) := by decide +kernel
theorem dX5_settle_77 : decode cX5_settle 77 = .ok (.ishl, 1) := by decide +kernel
theorem dX5_settle_78 : decode cX5_settle 78 = .ok (.goto 4, 3) := by decide +kernel
theorem dX5_settle_82 : decode cX5_settle 82 = .ok (.iastore, 1) := by decide +kernel
theorem dX5_settle_83 : decode cX5_settle 83 = .ok (.iinc 1 1, 3) := by decide +kernel
theorem dX5_settle_86 : decode cX5_settle 86 = .ok (.goto (-45), 3) := by decide +kernel
theorem dX5_settle_89 : decode cX5_settle 89 = .ok (.iconst 0, 1) := by decide +kernel
theorem dX5_settle_90 : decode cX5_settle 90 = .ok (.istore_n 1, 1) := by decide +kernel
theorem dX5_settle_91 : decode cX5_settle 91 = .ok (.iload_n 1, 1) := by decide +kernel
theorem dX5_settle_92 : decode cX5_settle 92 = .ok (.aload_n 0, 1) := by decide +kernel
theorem dX5_settle_93 : decode cX5_settle 93 = .ok (.getfield 32, 3) := by decide +kernel
theorem dX5_settle_96 : decode cX5_settle 96 = .ok (.arraylength, 1) := by decide +kernel
theorem dX5_settle_97 : decode cX5_settle 97 = .ok (.if_icmp .ge 40, 3) := by decide +kernel
theorem dX5_settle_100 : decode cX5_settle 100 = .ok (.aload_n 0, 1) := by decide +kernel
theorem dX5_settle_101 : decode cX5_settle 101 = .ok (.getfield 32, 3) := by decide +kernel
theorem dX5_settle_104 : decode cX5_settle 104 = .ok (.iload_n 1, 1) := by decide +kernel
theorem dX5_settle_105 : decode cX5_settle 105 = .ok (.iload_n 1, 1) := by decide +kernel
theorem dX5_settle_106 : decode cX5_settle 106 = .ok (.aload_n 0, 1) := by decide +kernel
theorem dX5_settle_107 : decode cX5_settle 107 = .ok (.getfield 54, 3) := by decide +kernel
theorem dX5_settle_110 : decode cX5_settle 110 = .ok (.if_icmp .ge 19, 3) := by decide +kernel
theorem dX5_settle_113 : decode cX5_settle 113 = .ok (.aload_n 0, 1) := by decide +kernel
theorem dX5_settle_114 : decode cX5_settle 114 = .ok (.getfield 42, 3) := by decide +kernel
theorem dX5_settle_117 : decode cX5_settle 117 = .ok (.ifCond .le 12, 3) := by decide +kernel
theorem dX5_settle_120 : decode cX5_settle 120 = .ok (.iload_n 1, 1) := by decide +kernel
theorem dX5_settle_121 : decode cX5_settle 121 = .ok (.aload_n 0, 1) := by decide +kernel
theorem dX5_settle_122 : decode cX5_settle 122 = .ok (.getfield 42, 3) := by decide +kernel
theorem dX5_settle_125 : decode cX5_settle 125 = .ok (.idiv, 1) := by decide +kernel
theorem dX5_settle_126 : decode cX5_settle 126 = .ok (.goto 4, 3) := by decide +kernel
theorem dX5_settle_130 : decode cX5_settle 130 = .ok (.iastore, 1) := by decide +kernel
theorem dX5_settle_131 : decode cX5_settle 131 = .ok (.iinc 1 1, 3) := by decide +kernel
theorem dX5_settle_134 : decode cX5_settle 134 = .ok (.goto (-43), 3) := by decide +kernel
theorem dX5_settle_137 : decode cX5_settle 137 = .ok (.aload_n 0, 1) := by decide +kernel
theorem dX5_settle_138 : decode cX5_settle 138 = .ok (.invokevirtual 60, 3) := by decide +kernel
theorem dX5_settle_141 : decode cX5_settle 141 = .ok (.return_, 1) := by decide +kernel
end
section
def jush (x y : Int32) : Int32 := (x.toUInt32 >>> (y.toUInt32 &&& Int32.toUInt32 31)).toInt32
/-- the place of the lowest bit of a set of 16 -/
def ltz (x : Int32) : Nat := (List.range 16).findIdx (fun j => decide (x = nI (2 ^ j)))
def lstep (x : Int32) : Int32 := ((x + (x &&& (-x))) ||| (jush (x ^^^ (x + (x &&& (-x)))) (2 + (nI (ltz (x &&& (-x)))))))
def lchk : Nat → Int32 → Bool
  | 0, _ => true
  | n + 1, x => decide (x < 65536) && (decide (x &&& (-x) = nI (2 ^ ltz (x &&& (-x)))) && (decide (ltz (x &&& (-x)) < 16) && lchk n (lstep x)))
set_option maxRecDepth 100000 in
theorem lchk_all : lchk 1820 15 = true := by decide +kernel
set_option maxHeartbeats 4000000 in
set_option maxRecDepth 100000 in
theorem wX5_clear {l : Launch} {D : va_G} {sz : Nat} (h0 : Nat) (b0 : Nat) (b1 : Nat) (b2 : Nat) (b3 : Nat) (b4 : Nat) (b5 : Nat) (b6 : Nat) (b7 : Nat) (i0 : Int32) (i1 : Int32) (i2 : Int32) (i3 : Int32) (i4 : Int32) (i5 : Int32) (i6 : Int32) (i7 : Int32) : Wv l yX5_clear cX5_clear 1 0 0 0 D [(h0, .inr (5, [.int i0, .int i1, .int i2, .int i3, .ref b0, .ref b1, .ref b2, .ref b3, .ref b4, .int i4, .int i5, .int i6, .ref b5, .ref b6, .ref b7, .int i7]))] [] [.ref h0] sz (fun _ => True) (fun q k g gl => [(h0, .inr (5, [.int 4, .int 4, .int (-1), .int 0, .ref b0, .ref b1, .ref b2, .ref b3, .ref b4, .int 0, .int i5, .int i6, .ref b5, .ref b6, .ref b7, .int i7]))]) (fun k => []) := by
  refine Wv.of (by decide) (Nat.le_of_ble_eq_true rfl) ?_
  intro p e s m below meth c ls A hx hb hr hml hown hts hlocks hin hP hK hD hA hS hE hAe hl
  have hown : s.vm.findClass "SignalTable$Laws" = some m.cls := hown
  have hin : meth.name = "clear" := hin
  skip
  have hl : lv_has ls 1 [(0, .ref h0)] := hl
  refine lv_aload_n hx hb dX5_clear_0 rfl (lv_at hl 0 rfl) ?_
  refine lv_iconst (v := 4) hx hb dX5_clear_1 (by decide) ?_
  refine va_put (D := D) (ci := 5) (v := .int 4) (ty := .int) (C := RX5) (T := TX5) (N := 16) hx hb hts inX5 tyX5 tyX5_ok nmX5 hown hK hP hD hS 0 rfl rfl 0 (by decide) (hts _ kw_188) (fun _ h9 => h9) rfl (by decide +kernel) rfl rfl (Nat.le_of_ble_eq_true rfl) dX5_clear_2 (fun H locs hP hD hS => ?_)
  have hP : va_P D vwCl [(h0, .inr (5, [.int 4, .int i1, .int i2, .int i3, .ref b0, .ref b1, .ref b2, .ref b3, .ref b4, .int i4, .int i5, .int i6, .ref b5, .ref b6, .ref b7, .int i7]))] H := hP
  have hD : va_D A [(h0, .inr (5, [.int 4, .int i1, .int i2, .int i3, .ref b0, .ref b1, .ref b2, .ref b3, .ref b4, .int i4, .int i5, .int i6, .ref b5, .ref b6, .ref b7, .int i7]))] := hD
  refine lv_aload_n hx hb dX5_clear_5 rfl (lv_at hl 0 rfl) ?_
  refine lv_iconst (v := 4) hx hb dX5_clear_6 (by decide) ?_
  refine va_put (D := D) (ci := 5) (v := .int 4) (ty := .int) (C := RX5) (T := TX5) (N := 16) hx hb hts inX5 tyX5 tyX5_ok nmX5 hown hK hP hD hS 0 rfl rfl 1 (by decide) (hts _ kw_192) (fun _ h9 => h9) rfl (by decide +kernel) rfl rfl (Nat.le_of_ble_eq_true rfl) dX5_clear_7 (fun H locs hP hD hS => ?_)
  have hP : va_P D vwCl [(h0, .inr (5, [.int 4, .int 4, .int i2, .int i3, .ref b0, .ref b1, .ref b2, .ref b3, .ref b4, .int i4, .int i5, .int i6, .ref b5, .ref b6, .ref b7, .int i7]))] H := hP
  have hD : va_D A [(h0, .inr (5, [.int 4, .int 4, .int i2, .int i3, .ref b0, .ref b1, .ref b2, .ref b3, .ref b4, .int i4, .int i5, .int i6, .ref b5, .ref b6, .ref b7, .int i7]))] := hD
  refine lv_aload_n hx hb dX5_clear_10 rfl (lv_at hl 0 rfl) ?_
  refine lv_iconst (v := (-1)) hx hb dX5_clear_11 (by decide) ?_
  refine va_put (D := D) (ci := 5) (v := .int (-1)) (ty := .int) (C := RX5) (T := TX5) (N := 16) hx hb hts inX5 tyX5 tyX5_ok nmX5 hown hK hP hD hS 0 rfl rfl 2 (by decide) (hts _ kw_195) (fun _ h9 => h9) rfl (by decide +kernel) rfl rfl (Nat.le_of_ble_eq_true rfl) dX5_clear_12 (fun H locs hP hD hS => ?_)
  have hP : va_P D vwCl [(h0, .inr (5, [.int 4, .int 4, .int (-1), .int i3, .ref b0, .ref b1, .ref b2, .ref b3, .ref b4, .int i4, .int i5, .int i6, .ref b5, .ref b6, .ref b7, .int i7]))] H := hP
  have hD : va_D A [(h0, .inr (5, [.int 4, .int 4, .int (-1), .int i3, .ref b0, .ref b1, .ref b2, .ref b3, .ref b4, .int i4, .int i5, .int i6, .ref b5, .ref b6, .ref b7, .int i7]))] := hD
  refine lv_aload_n hx hb dX5_clear_15 rfl (lv_at hl 0 rfl) ?_
  refine lv_iconst (v := 0) hx hb dX5_clear_16 (by decide) ?_
  refine va_put (D := D) (ci := 5) (v := .int 0) (ty := .int) (C := RX5) (T := TX5) (N := 16) hx hb hts inX5 tyX5 tyX5_ok nmX5 hown hK hP hD hS 0 rfl rfl 3 (by decide) (hts _ kw_201) (fun _ h9 => h9) rfl (by decide +kernel) rfl rfl (Nat.le_of_ble_eq_true rfl) dX5_clear_17 (fun H locs hP hD hS => ?_)
  have hP : va_P D vwCl [(h0, .inr (5, [.int 4, .int 4, .int (-1), .int 0, .ref b0, .ref b1, .ref b2, .ref b3, .ref b4, .int i4, .int i5, .int i6, .ref b5, .ref b6, .ref b7, .int i7]))] H := hP
  have hD : va_D A [(h0, .inr (5, [.int 4, .int 4, .int (-1), .int 0, .ref b0, .ref b1, .ref b2, .ref b3, .ref b4, .int i4, .int i5, .int i6, .ref b5, .ref b6, .ref b7, .int i7]))] := hD
  refine lv_aload_n hx hb dX5_clear_20 rfl (lv_at hl 0 rfl) ?_
  refine lv_iconst (v := 0) hx hb dX5_clear_21 (by decide) ?_
  refine va_put (D := D) (ci := 5) (v := .int 0) (ty := .int) (C := RX5) (T := TX5) (N := 16) hx hb hts inX5 tyX5 tyX5_ok nmX5 hown hK hP hD hS 0 rfl rfl 9 (by decide) (hts _ kw_218) (fun _ h9 => h9) rfl (by decide +kernel) rfl rfl (Nat.le_of_ble_eq_true rfl) dX5_clear_22 (fun H locs hP hD hS => ?_)
  have hP : va_P D vwCl [(h0, .inr (5, [.int 4, .int 4, .int (-1), .int 0, .ref b0, .ref b1, .ref b2, .ref b3, .ref b4, .int 0, .int i5, .int i6, .ref b5, .ref b6, .ref b7, .int i7]))] H := hP
  have hD : va_D A [(h0, .inr (5, [.int 4, .int 4, .int (-1), .int 0, .ref b0, .ref b1, .ref b2, .ref b3, .ref b4, .int 0, .int i5, .int i6, .ref b5, .ref b6, .ref b7, .int i7]))] := hD
  exact wr_v (q := (fun _ => 0)) (k := (fun _ => 0)) (g := (fun _ => fun _ => 0)) (gl := (fun _ => fun _ => 0)) hx hb hr hlocks hS (hP.sub [0] rfl) (hK.sub [] rfl) (hD.sub [0] (by decide) rfl) dX5_clear_25
set_option maxHeartbeats 4000000 in
set_option maxRecDepth 100000 in
theorem j_ntz0 {l : Launch} : RdE l yJ6_numberOfTrailingZeros_0f7a4 cJ6_numberOfTrailingZeros_0f7a4 2 (some .int) 0 (fun _ => True) [.int 1] (.int 0) := by
  refine RdE.of (by decide) (Nat.le_of_ble_eq_true rfl) ?_
  intro p e s m below meth c ls hx hb hr hml hown hts hlocks hE hl
  have hown : s.vm.findClass "java/lang/Integer" = some m.cls := hown
  have hl : lv_has ls 2 [(0, .int 1)] := hl
  refine lv_iload_n hx hb dJ6_numberOfTrailingZeros_0f7a4_0 rfl (lv_at hl 0 rfl) ?_
  refine lv_iconst (v := (-1)) hx hb dJ6_numberOfTrailingZeros_0f7a4_1 (by decide) ?_
  refine lv_ixor hx hb dJ6_numberOfTrailingZeros_0f7a4_2 ?_
  refine z_i (v := (-2)) (by decide) ?_
  refine lv_iload_n hx hb dJ6_numberOfTrailingZeros_0f7a4_3 rfl (lv_at hl 0 rfl) ?_
  refine lv_iconst (v := 1) hx hb dJ6_numberOfTrailingZeros_0f7a4_4 (by decide) ?_
  refine lv_isub hx hb dJ6_numberOfTrailingZeros_0f7a4_5 ?_
  refine z_i (v := 0) (by decide) ?_
  refine lv_iand hx hb dJ6_numberOfTrailingZeros_0f7a4_6 ?_
  refine z_i (v := 0) (by decide) ?_
  refine lv_istore_n (lv' := [(0, .int 0)]) hx hb dJ6_numberOfTrailingZeros_0f7a4_7 rfl hl (by decide) rfl (fun ls hl => ?_)
  refine lv_iload_n hx hb dJ6_numberOfTrailingZeros_0f7a4_8 rfl (lv_at hl 0 rfl) ?_
  refine lv_if_gt (tgt := 17) hx hb dJ6_numberOfTrailingZeros_0f7a4_9 (by decide) (fun h => absurd h (by decide)) (fun _ => ?_)
  refine lv_iload_n hx hb dJ6_numberOfTrailingZeros_0f7a4_12 rfl (lv_at hl 0 rfl) ?_
  refine lv_bipush (v := 32) hx hb dJ6_numberOfTrailingZeros_0f7a4_13 (by decide) ?_
  refine lv_iand hx hb dJ6_numberOfTrailingZeros_0f7a4_15 ?_
  refine z_i (v := 0) (by decide) ?_
  exact rd_i hx hb hr hlocks (rfl) dJ6_numberOfTrailingZeros_0f7a4_16
set_option maxHeartbeats 4000000 in
set_option maxRecDepth 100000 in
theorem j_ntz1 {l : Launch} : RdE l yJ6_numberOfTrailingZeros_0f7a4 cJ6_numberOfTrailingZeros_0f7a4 2 (some .int) 0 (fun _ => True) [.int 2] (.int 1) := by
  refine RdE.of (by decide) (Nat.le_of_ble_eq_true rfl) ?_
  intro p e s m below meth c ls hx hb hr hml hown hts hlocks hE hl
  have hown : s.vm.findClass "java/lang/Integer" = some m.cls := hown
  have hl : lv_has ls 2 [(0, .int 2)] := hl
  refine lv_iload_n hx hb dJ6_numberOfTrailingZeros_0f7a4_0 rfl (lv_at hl 0 rfl) ?_
  refine lv_iconst (v := (-1)) hx hb dJ6_numberOfTrailingZeros_0f7a4_1 (by decide) ?_
  refine lv_ixor hx hb dJ6_numberOfTrailingZeros_0f7a4_2 ?_
  refine z_i (v := (-3)) (by decide) ?_
  refine lv_iload_n hx hb dJ6_numberOfTrailingZeros_0f7a4_3 rfl (lv_at hl 0 rfl) ?_
  refine lv_iconst (v := 1) hx hb dJ6_numberOfTrailingZeros_0f7a4_4 (by decide) ?_
  refine lv_isub hx hb dJ6_numberOfTrailingZeros_0f7a4_5 ?_
  refine z_i (v := 1) (by decide) ?_
  refine lv_iand hx hb dJ6_numberOfTrailingZeros_0f7a4_6 ?_
  refine z_i (v := 1) (by decide) ?_
  refine lv_istore_n (lv' := [(0, .int 1)]) hx hb dJ6_numberOfTrailingZeros_0f7a4_7 rfl hl (by decide) rfl (fun ls hl => ?_)
  refine lv_iload_n hx hb dJ6_numberOfTrailingZeros_0f7a4_8 rfl (lv_at hl 0 rfl) ?_
  refine lv_if_gt (tgt := 17) hx hb dJ6_numberOfTrailingZeros_0f7a4_9 (by decide) (fun _ => ?_) (fun h => absurd (by decide) h)
  refine lv_iconst (v := 1) hx hb dJ6_numberOfTrailingZeros_0f7a4_17 (by decide) ?_
  refine lv_istore_n (lv' := [(1, .int 1), (0, .int 1)]) hx hb dJ6_numberOfTrailingZeros_0f7a4_18 rfl hl (by decide) rfl (fun ls hl => ?_)
  refine lv_iload_n hx hb dJ6_numberOfTrailingZeros_0f7a4_19 rfl (lv_at hl 1 rfl) ?_
  refine lv_ldcw (v := 65536) hx hb hown (hts _ kw_706) dJ6_numberOfTrailingZeros_0f7a4_20 ?_
  refine lv_icmp_le (tgt := 34) hx hb dJ6_numberOfTrailingZeros_0f7a4_23 (by decide) (fun _ => ?_) (fun h => absurd (by decide) h)
  refine lv_iload_n hx hb dJ6_numberOfTrailingZeros_0f7a4_34 rfl (lv_at hl 1 rfl) ?_
  refine lv_sipush (v := 256) hx hb dJ6_numberOfTrailingZeros_0f7a4_35 (by decide) ?_
  refine lv_icmp_le (tgt := 49) hx hb dJ6_numberOfTrailingZeros_0f7a4_38 (by decide) (fun _ => ?_) (fun h => absurd (by decide) h)
  refine lv_iload_n hx hb dJ6_numberOfTrailingZeros_0f7a4_49 rfl (lv_at hl 1 rfl) ?_
  refine lv_bipush (v := 16) hx hb dJ6_numberOfTrailingZeros_0f7a4_50 (by decide) ?_
  refine lv_icmp_le (tgt := 62) hx hb dJ6_numberOfTrailingZeros_0f7a4_52 (by decide) (fun _ => ?_) (fun h => absurd (by decide) h)
  refine lv_iload_n hx hb dJ6_numberOfTrailingZeros_0f7a4_62 rfl (lv_at hl 1 rfl) ?_
  refine lv_iconst (v := 4) hx hb dJ6_numberOfTrailingZeros_0f7a4_63 (by decide) ?_
  refine lv_icmp_le (tgt := 74) hx hb dJ6_numberOfTrailingZeros_0f7a4_64 (by decide) (fun _ => ?_) (fun h => absurd (by decide) h)
  refine lv_iload_n hx hb dJ6_numberOfTrailingZeros_0f7a4_74 rfl (lv_at hl 0 rfl) ?_
  refine lv_iload_n hx hb dJ6_numberOfTrailingZeros_0f7a4_75 rfl (lv_at hl 1 rfl) ?_
  refine lv_iconst (v := 1) hx hb dJ6_numberOfTrailingZeros_0f7a4_76 (by decide) ?_
  refine lv_iushr (v := 0) hx hb dJ6_numberOfTrailingZeros_0f7a4_77 (by decide) ?_
  refine lv_iadd hx hb dJ6_numberOfTrailingZeros_0f7a4_78 ?_
  refine z_i (v := 1) (by decide) ?_
  exact rd_i hx hb hr hlocks (rfl) dJ6_numberOfTrailingZeros_0f7a4_79
set_option maxHeartbeats 4000000 in
set_option maxRecDepth 100000 in
theorem j_ntz2 {l : Launch} : RdE l yJ6_numberOfTrailingZeros_0f7a4 cJ6_numberOfTrailingZeros_0f7a4 2 (some .int) 0 (fun _ => True) [.int 4] (.int 2) := by
  refine RdE.of (by decide) (Nat.le_of_ble_eq_true rfl) ?_
  intro p e s m below meth c ls hx hb hr hml hown hts hlocks hE hl
  have hown : s.vm.findClass "java/lang/Integer" = some m.cls := hown
  have hl : lv_has ls 2 [(0, .int 4)] := hl
  refine lv_iload_n hx hb dJ6_numberOfTrailingZeros_0f7a4_0 rfl (lv_at hl 0 rfl) ?_
  refine lv_iconst (v := (-1)) hx hb dJ6_numberOfTrailingZeros_0f7a4_1 (by decide) ?_
  refine lv_ixor hx hb dJ6_numberOfTrailingZeros_0f7a4_2 ?_
  refine z_i (v := (-5)) (by decide) ?_
  refine lv_iload_n hx hb dJ6_numberOfTrailingZeros_0f7a4_3 rfl (lv_at hl 0 rfl) ?_
  refine lv_iconst (v := 1) hx hb dJ6_numberOfTrailingZeros_0f7a4_4 (by decide) ?_
  refine lv_isub hx hb dJ6_numberOfTrailingZeros_0f7a4_5 ?_
  refine z_i (v := 3) (by decide) ?_
  refine lv_iand hx hb dJ6_numberOfTrailingZeros_0f7a4_6 ?_
  refine z_i (v := 3) (by decide) ?_
  refine lv_istore_n (lv' := [(0, .int 3)]) hx hb dJ6_numberOfTrailingZeros_0f7a4_7 rfl hl (by decide) rfl (fun ls hl => ?_)
  refine lv_iload_n hx hb dJ6_numberOfTrailingZeros_0f7a4_8 rfl (lv_at hl 0 rfl) ?_
  refine lv_if_gt (tgt := 17) hx hb dJ6_numberOfTrailingZeros_0f7a4_9 (by decide) (fun _ => ?_) (fun h => absurd (by decide) h)
  refine lv_iconst (v := 1) hx hb dJ6_numberOfTrailingZeros_0f7a4_17 (by decide) ?_
  refine lv_istore_n (lv' := [(1, .int 1), (0, .int 3)]) hx hb dJ6_numberOfTrailingZeros_0f7a4_18 rfl hl (by decide) rfl (fun ls hl => ?_)
  refine lv_iload_n hx hb dJ6_numberOfTrailingZeros_0f7a4_19 rfl (lv_at hl 1 rfl) ?_
  refine lv_ldcw (v := 65536) hx hb hown (hts _ kw_706) dJ6_numberOfTrailingZeros_0f7a4_20 ?_
  refine lv_icmp_le (tgt := 34) hx hb dJ6_numberOfTrailingZeros_0f7a4_23 (by decide) (fun _ => ?_) (fun h => absurd (by decide) h)
  refine lv_iload_n hx hb dJ6_numberOfTrailingZeros_0f7a4_34 rfl (lv_at hl 1 rfl) ?_
  refine lv_sipush (v := 256) hx hb dJ6_numberOfTrailingZeros_0f7a4_35 (by decide) ?_
  refine lv_icmp_le (tgt := 49) hx hb dJ6_numberOfTrailingZeros_0f7a4_38 (by decide) (fun _ => ?_) (fun h => absurd (by decide) h)
  refine lv_iload_n hx hb dJ6_numberOfTrailingZeros_0f7a4_49 rfl (lv_at hl 1 rfl) ?_
  refine lv_bipush (v := 16) hx hb dJ6_numberOfTrailingZeros_0f7a4_50 (by decide) ?_
  refine lv_icmp_le (tgt := 62) hx hb dJ6_numberOfTrailingZeros_0f7a4_52 (by decide) (fun _ => ?_) (fun h => absurd (by decide) h)
  refine lv_iload_n hx hb dJ6_numberOfTrailingZeros_0f7a4_62 rfl (lv_at hl 1 rfl) ?_
  refine lv_iconst (v := 4) hx hb dJ6_numberOfTrailingZeros_0f7a4_63 (by decide) ?_
  refine lv_icmp_le (tgt := 74) hx hb dJ6_numberOfTrailingZeros_0f7a4_64 (by decide) (fun _ => ?_) (fun h => absurd (by decide) h)
  refine lv_iload_n hx hb dJ6_numberOfTrailingZeros_0f7a4_74 rfl (lv_at hl 0 rfl) ?_
  refine lv_iload_n hx hb dJ6_numberOfTrailingZeros_0f7a4_75 rfl (lv_at hl 1 rfl) ?_
  refine lv_iconst (v := 1) hx hb dJ6_numberOfTrailingZeros_0f7a4_76 (by decide) ?_
  refine lv_iushr (v := 1) hx hb dJ6_numberOfTrailingZeros_0f7a4_77 (by decide) ?_
  refine lv_iadd hx hb dJ6_numberOfTrailingZeros_0f7a4_78 ?_
  refine z_i (v := 2) (by decide) ?_
  exact rd_i hx hb hr hlocks (rfl) dJ6_numberOfTrailingZeros_0f7a4_79
set_option maxHeartbeats 4000000 in
set_option maxRecDepth 100000 in
theorem j_ntz3 {l : Launch} : RdE l yJ6_numberOfTrailingZeros_0f7a4 cJ6_numberOfTrailingZeros_0f7a4 2 (some .int) 0 (fun _ => True) [.int 8] (.int 3) := by
  refine RdE.of (by decide) (Nat.le_of_ble_eq_true rfl) ?_
  intro p e s m below meth c ls hx hb hr hml hown hts hlocks hE hl
  have hown : s.vm.findClass "java/lang/Integer" = some m.cls := hown
  have hl : lv_has ls 2 [(0, .int 8)] := hl
  refine lv_iload_n hx hb dJ6_numberOfTrailingZeros_0f7a4_0 rfl (lv_at hl 0 rfl) ?_
  refine lv_iconst (v := (-1)) hx hb dJ6_numberOfTrailingZeros_0f7a4_1 (by decide) ?_
  refine lv_ixor hx hb dJ6_numberOfTrailingZeros_0f7a4_2 ?_
  refine z_i (v := (-9)) (by decide) ?_
  refine lv_iload_n hx hb dJ6_numberOfTrailingZeros_0f7a4_3 rfl (lv_at hl 0 rfl) ?_
  refine lv_iconst (v := 1) hx hb dJ6_numberOfTrailingZeros_0f7a4_4 (by decide) ?_
  refine lv_isub hx hb dJ6_numberOfTrailingZeros_0f7a4_5 ?_
  refine z_i (v := 7) (by decide) ?_
  refine lv_iand hx hb dJ6_numberOfTrailingZeros_0f7a4_6 ?_
  refine z_i (v := 7) (by decide) ?_
  refine lv_istore_n (lv' := [(0, .int 7)]) hx hb dJ6_numberOfTrailingZeros_0f7a4_7 rfl hl (by decide) rfl (fun ls hl => ?_)
  refine lv_iload_n hx hb dJ6_numberOfTrailingZeros_0f7a4_8 rfl (lv_at hl 0 rfl) ?_
  refine lv_if_gt (tgt := 17) hx hb dJ6_numberOfTrailingZeros_0f7a4_9 (by decide) (fun _ => ?_) (fun h => absurd (by decide) h)
  refine lv_iconst (v := 1) hx hb dJ6_numberOfTrailingZeros_0f7a4_17 (by decide) ?_
  refine lv_istore_n (lv' := [(1, .int 1), (0, .int 7)]) hx hb dJ6_numberOfTrailingZeros_0f7a4_18 rfl hl (by decide) rfl (fun ls hl => ?_)
  refine lv_iload_n hx hb dJ6_numberOfTrailingZeros_0f7a4_19 rfl (lv_at hl 1 rfl) ?_
  refine lv_ldcw (v := 65536) hx hb hown (hts _ kw_706) dJ6_numberOfTrailingZeros_0f7a4_20 ?_
  refine lv_icmp_le (tgt := 34) hx hb dJ6_numberOfTrailingZeros_0f7a4_23 (by decide) (fun _ => ?_) (fun h => absurd (by decide) h)
  refine lv_iload_n hx hb dJ6_numberOfTrailingZeros_0f7a4_34 rfl (lv_at hl 1 rfl) ?_
  refine lv_sipush (v := 256) hx hb dJ6_numberOfTrailingZeros_0f7a4_35 (by decide) ?_
  refine lv_icmp_le (tgt := 49) hx hb dJ6_numberOfTrailingZeros_0f7a4_38 (by decide) (fun _ => ?_) (fun h => absurd (by decide) h)
  refine lv_iload_n hx hb dJ6_numberOfTrailingZeros_0f7a4_49 rfl (lv_at hl 1 rfl) ?_
  refine lv_bipush (v := 16) hx hb dJ6_numberOfTrailingZeros_0f7a4_50 (by decide) ?_
  refine lv_icmp_le (tgt := 62) hx hb dJ6_numberOfTrailingZeros_0f7a4_52 (by decide) (fun _ => ?_) (fun h => absurd (by decide) h)
  refine lv_iload_n hx hb dJ6_numberOfTrailingZeros_0f7a4_62 rfl (lv_at hl 1 rfl) ?_
  refine lv_iconst (v := 4) hx hb dJ6_numberOfTrailingZeros_0f7a4_63 (by decide) ?_
  refine lv_icmp_le (tgt := 74) hx hb dJ6_numberOfTrailingZeros_0f7a4_64 (by decide) (fun h => absurd h (by decide)) (fun _ => ?_)
  refine lv_iinc (v := 3) (lv' := [(1, .int 3), (0, .int 7)]) hx hb dJ6_numberOfTrailingZeros_0f7a4_67 hl (k := 0) rfl (by decide) (by decide) rfl (fun ls hl => ?_)
  refine lv_iload_n hx hb dJ6_numberOfTrailingZeros_0f7a4_70 rfl (lv_at hl 1 rfl) ?_
  refine lv_iconst (v := 2) hx hb dJ6_numberOfTrailingZeros_0f7a4_71 (by decide) ?_
  refine lv_iushr (v := 1) hx hb dJ6_numberOfTrailingZeros_0f7a4_72 (by decide) ?_
  refine lv_istore_n (lv' := [(0, .int 1), (1, .int 3)]) hx hb dJ6_numberOfTrailingZeros_0f7a4_73 rfl hl (by decide) rfl (fun ls hl => ?_)
  refine lv_iload_n hx hb dJ6_numberOfTrailingZeros_0f7a4_74 rfl (lv_at hl 1 rfl) ?_
  refine lv_iload_n hx hb dJ6_numberOfTrailingZeros_0f7a4_75 rfl (lv_at hl 0 rfl) ?_
  refine lv_iconst (v := 1) hx hb dJ6_numberOfTrailingZeros_0f7a4_76 (by decide) ?_
  refine lv_iushr (v := 0) hx hb dJ6_numberOfTrailingZeros_0f7a4_77 (by decide) ?_
  refine lv_iadd hx hb dJ6_numberOfTrailingZeros_0f7a4_78 ?_
  refine z_i (v := 3) (by decide) ?_
  exact rd_i hx hb hr hlocks (rfl) dJ6_numberOfTrailingZeros_0f7a4_79
set_option maxHeartbeats 4000000 in
set_option maxRecDepth 100000 in
theorem j_ntz4 {l : Launch} : RdE l yJ6_numberOfTrailingZeros_0f7a4 cJ6_numberOfTrailingZeros_0f7a4 2 (some .int) 0 (fun _ => True) [.int 16] (.int 4) := by
  refine RdE.of (by decide) (Nat.le_of_ble_eq_true rfl) ?_
  intro p e s m below meth c ls hx hb hr hml hown hts hlocks hE hl
  have hown : s.vm.findClass "java/lang/Integer" = some m.cls := hown
  have hl : lv_has ls 2 [(0, .int 16)] := hl
  refine lv_iload_n hx hb dJ6_numberOfTrailingZeros_0f7a4_0 rfl (lv_at hl 0 rfl) ?_
  refine lv_iconst (v := (-1)) hx hb dJ6_numberOfTrailingZeros_0f7a4_1 (by decide) ?_
  refine lv_ixor hx hb dJ6_numberOfTrailingZeros_0f7a4_2 ?_
  refine z_i (v := (-17)) (by decide) ?_
  refine lv_iload_n hx hb dJ6_numberOfTrailingZeros_0f7a4_3 rfl (lv_at hl 0 rfl) ?_
  refine lv_iconst (v := 1) hx hb dJ6_numberOfTrailingZeros_0f7a4_4 (by decide) ?_
  refine lv_isub hx hb dJ6_numberOfTrailingZeros_0f7a4_5 ?_
  refine z_i (v := 15) (by decide) ?_
  refine lv_iand hx hb dJ6_numberOfTrailingZeros_0f7a4_6 ?_
  refine z_i (v := 15) (by decide) ?_
  refine lv_istore_n (lv' := [(0, .int 15)]) hx hb dJ6_numberOfTrailingZeros_0f7a4_7 rfl hl (by decide) rfl (fun ls hl => ?_)
  refine lv_iload_n hx hb dJ6_numberOfTrailingZeros_0f7a4_8 rfl (lv_at hl 0 rfl) ?_
  refine lv_if_gt (tgt := 17) hx hb dJ6_numberOfTrailingZeros_0f7a4_9 (by decide) (fun _ => ?_) (fun h => absurd (by decide) h)
  refine lv_iconst (v := 1) hx hb dJ6_numberOfTrailingZeros_0f7a4_17 (by decide) ?_
  refine lv_istore_n (lv' := [(1, .int 1), (0, .int 15)]) hx hb dJ6_numberOfTrailingZeros_0f7a4_18 rfl hl (by decide) rfl (fun ls hl => ?_)
  refine lv_iload_n hx hb dJ6_numberOfTrailingZeros_0f7a4_19 rfl (lv_at hl 1 rfl) ?_
  refine lv_ldcw (v := 65536) hx hb hown (hts _ kw_706) dJ6_numberOfTrailingZeros_0f7a4_20 ?_
  refine lv_icmp_le (tgt := 34) hx hb dJ6_numberOfTrailingZeros_0f7a4_23 (by decide) (fun _ => ?_) (fun h => absurd (by decide) h)
  refine lv_iload_n hx hb dJ6_numberOfTrailingZeros_0f7a4_34 rfl (lv_at hl 1 rfl) ?_
  refine lv_sipush (v := 256) hx hb dJ6_numberOfTrailingZeros_0f7a4_35 (by decide) ?_
  refine lv_icmp_le (tgt := 49) hx hb dJ6_numberOfTrailingZeros_0f7a4_38 (by decide) (fun _ => ?_) (fun h => absurd (by decide) h)
  refine lv_iload_n hx hb dJ6_numberOfTrailingZeros_0f7a4_49 rfl (lv_at hl 1 rfl) ?_
  refine lv_bipush (v := 16) hx hb dJ6_numberOfTrailingZeros_0f7a4_50 (by decide) ?_
  refine lv_icmp_le (tgt := 62) hx hb dJ6_numberOfTrailingZeros_0f7a4_52 (by decide) (fun _ => ?_) (fun h => absurd (by decide) h)
  refine lv_iload_n hx hb dJ6_numberOfTrailingZeros_0f7a4_62 rfl (lv_at hl 1 rfl) ?_
  refine lv_iconst (v := 4) hx hb dJ6_numberOfTrailingZeros_0f7a4_63 (by decide) ?_
  refine lv_icmp_le (tgt := 74) hx hb dJ6_numberOfTrailingZeros_0f7a4_64 (by decide) (fun h => absurd h (by decide)) (fun _ => ?_)
  refine lv_iinc (v := 3) (lv' := [(1, .int 3), (0, .int 15)]) hx hb dJ6_numberOfTrailingZeros_0f7a4_67 hl (k := 0) rfl (by decide) (by decide) rfl (fun ls hl => ?_)
  refine lv_iload_n hx hb dJ6_numberOfTrailingZeros_0f7a4_70 rfl (lv_at hl 1 rfl) ?_
  refine lv_iconst (v := 2) hx hb dJ6_numberOfTrailingZeros_0f7a4_71 (by decide) ?_
  refine lv_iushr (v := 3) hx hb dJ6_numberOfTrailingZeros_0f7a4_72 (by decide) ?_
  refine lv_istore_n (lv' := [(0, .int 3), (1, .int 3)]) hx hb dJ6_numberOfTrailingZeros_0f7a4_73 rfl hl (by decide) rfl (fun ls hl => ?_)
  refine lv_iload_n hx hb dJ6_numberOfTrailingZeros_0f7a4_74 rfl (lv_at hl 1 rfl) ?_
  refine lv_iload_n hx hb dJ6_numberOfTrailingZeros_0f7a4_75 rfl (lv_at hl 0 rfl) ?_
  refine lv_iconst (v := 1) hx hb dJ6_numberOfTrailingZeros_0f7a4_76 (by decide) ?_
  refine lv_iushr (v := 1) hx hb dJ6_numberOfTrailingZeros_0f7a4_77 (by decide) ?_
  refine lv_iadd hx hb dJ6_numberOfTrailingZeros_0f7a4_78 ?_
  refine z_i (v := 4) (by decide) ?_
  exact rd_i hx hb hr hlocks (rfl) dJ6_numberOfTrailingZeros_0f7a4_79
set_option maxHeartbeats 4000000 in
set_option maxRecDepth 100000 in
theorem j_ntz5 {l : Launch} : RdE l yJ6_numberOfTrailingZeros_0f7a4 cJ6_numberOfTrailingZeros_0f7a4 2 (some .int) 0 (fun _ => True) [.int 32] (.int 5) := by
  refine RdE.of (by decide) (Nat.le_of_ble_eq_true rfl) ?_
  intro p e s m below meth c ls hx hb hr hml hown hts hlocks hE hl
  have hown : s.vm.findClass "java/lang/Integer" = some m.cls := hown
  have hl : lv_has ls 2 [(0, .int 32)] := hl
  refine lv_iload_n hx hb dJ6_numberOfTrailingZeros_0f7a4_0 rfl (lv_at hl 0 rfl) ?_
  refine lv_iconst (v := (-1)) hx hb dJ6_numberOfTrailingZeros_0f7a4_1 (by decide) ?_
  refine lv_ixor hx hb dJ6_numberOfTrailingZeros_0f7a4_2 ?_
  refine z_i (v := (-33)) (by decide) ?_
  refine lv_iload_n hx hb dJ6_numberOfTrailingZeros_0f7a4_3 rfl (lv_at hl 0 rfl) ?_
  refine lv_iconst (v := 1) hx hb dJ6_numberOfTrailingZeros_0f7a4_4 (by decide) ?_
  refine lv_isub hx hb dJ6_numberOfTrailingZeros_0f7a4_5 ?_
  refine z_i (v := 31) (by decide) ?_
  refine lv_iand hx hb dJ6_numberOfTrailingZeros_0f7a4_6 ?_
  refine z_i (v := 31) (by decide) ?_
  refine lv_istore_n (lv' := [(0, .int 31)]) hx hb dJ6_numberOfTrailingZeros_0f7a4_7 rfl hl (by decide) rfl (fun ls hl => ?_)
  refine lv_iload_n hx hb dJ6_numberOfTrailingZeros_0f7a4_8 rfl (lv_at hl 0 rfl) ?_
  refine lv_if_gt (tgt := 17) hx hb dJ6_numberOfTrailingZeros_0f7a4_9 (by decide) (fun _ => ?_) (fun h => absurd (by decide) h)
  refine lv_iconst (v := 1) hx hb dJ6_numberOfTrailingZeros_0f7a4_17 (by decide) ?_
  refine lv_istore_n (lv' := [(1, .int 1), (0, .int 31)]) hx hb dJ6_numberOfTrailingZeros_0f7a4_18 rfl hl (by decide) rfl (fun ls hl => ?_)
  refine lv_iload_n hx hb dJ6_numberOfTrailingZeros_0f7a4_19 rfl (lv_at hl 1 rfl) ?_
  refine lv_ldcw (v := 65536) hx hb hown (hts _ kw_706) dJ6_numberOfTrailingZeros_0f7a4_20 ?_
  refine lv_icmp_le (tgt := 34) hx hb dJ6_numberOfTrailingZeros_0f7a4_23 (by decide) (fun _ => ?_) (fun h => absurd (by decide) h)
  refine lv_iload_n hx hb dJ6_numberOfTrailingZeros_0f7a4_34 rfl (lv_at hl 1 rfl) ?_
  refine lv_sipush (v := 256) hx hb dJ6_numberOfTrailingZeros_0f7a4_35 (by decide) ?_
  refine lv_icmp_le (tgt := 49) hx hb dJ6_numberOfTrailingZeros_0f7a4_38 (by decide) (fun _ => ?_) (fun h => absurd (by decide) h)
  refine lv_iload_n hx hb dJ6_numberOfTrailingZeros_0f7a4_49 rfl (lv_at hl 1 rfl) ?_
  refine lv_bipush (v := 16) hx hb dJ6_numberOfTrailingZeros_0f7a4_50 (by decide) ?_
  refine lv_icmp_le (tgt := 62) hx hb dJ6_numberOfTrailingZeros_0f7a4_52 (by decide) (fun h => absurd h (by decide)) (fun _ => ?_)
  refine lv_iinc (v := 5) (lv' := [(1, .int 5), (0, .int 31)]) hx hb dJ6_numberOfTrailingZeros_0f7a4_55 hl (k := 0) rfl (by decide) (by decide) rfl (fun ls hl => ?_)
  refine lv_iload_n hx hb dJ6_numberOfTrailingZeros_0f7a4_58 rfl (lv_at hl 1 rfl) ?_
  refine lv_iconst (v := 4) hx hb dJ6_numberOfTrailingZeros_0f7a4_59 (by decide) ?_
  refine lv_iushr (v := 1) hx hb dJ6_numberOfTrailingZeros_0f7a4_60 (by decide) ?_
  refine lv_istore_n (lv' := [(0, .int 1), (1, .int 5)]) hx hb dJ6_numberOfTrailingZeros_0f7a4_61 rfl hl (by decide) rfl (fun ls hl => ?_)
  refine lv_iload_n hx hb dJ6_numberOfTrailingZeros_0f7a4_62 rfl (lv_at hl 0 rfl) ?_
  refine lv_iconst (v := 4) hx hb dJ6_numberOfTrailingZeros_0f7a4_63 (by decide) ?_
  refine lv_icmp_le (tgt := 74) hx hb dJ6_numberOfTrailingZeros_0f7a4_64 (by decide) (fun _ => ?_) (fun h => absurd (by decide) h)
  refine lv_iload_n hx hb dJ6_numberOfTrailingZeros_0f7a4_74 rfl (lv_at hl 1 rfl) ?_
  refine lv_iload_n hx hb dJ6_numberOfTrailingZeros_0f7a4_75 rfl (lv_at hl 0 rfl) ?_
  refine lv_iconst (v := 1) hx hb dJ6_numberOfTrailingZeros_0f7a4_76 (by decide) ?_
  refine lv_iushr (v := 0) hx hb dJ6_numberOfTrailingZeros_0f7a4_77 (by decide) ?_
  refine lv_iadd hx hb dJ6_numberOfTrailingZeros_0f7a4_78 ?_
  refine z_i (v := 5) (by decide) ?_
  exact rd_i hx hb hr hlocks (rfl) dJ6_numberOfTrailingZeros_0f7a4_79
set_option maxHeartbeats 4000000 in
set_option maxRecDepth 100000 in
theorem j_ntz6 {l : Launch} : RdE l yJ6_numberOfTrailingZeros_0f7a4 cJ6_numberOfTrailingZeros_0f7a4 2 (some .int) 0 (fun _ => True) [.int 64] (.int 6) := by
  refine RdE.of (by decide) (Nat.le_of_ble_eq_true rfl) ?_
  intro p e s m below meth c ls hx hb hr hml hown hts hlocks hE hl
  have hown : s.vm.findClass "java/lang/Integer" = some m.cls := hown
  have hl : lv_has ls 2 [(0, .int 64)] := hl
  refine lv_iload_n hx hb dJ6_numberOfTrailingZeros_0f7a4_0 rfl (lv_at hl 0 rfl) ?_
  refine lv_iconst (v := (-1)) hx hb dJ6_numberOfTrailingZeros_0f7a4_1 (by decide) ?_
  refine lv_ixor hx hb dJ6_numberOfTrailingZeros_0f7a4_2 ?_
  refine z_i (v := (-65)) (by decide) ?_
  refine lv_iload_n hx hb dJ6_numberOfTrailingZeros_0f7a4_3 rfl (lv_at hl 0 rfl) ?_
  refine lv_iconst (v := 1) hx hb dJ6_numberOfTrailingZeros_0f7a4_4 (by decide) ?_
  refine lv_isub hx hb dJ6_numberOfTrailingZeros_0f7a4_5 ?_
  refine z_i (v := 63) (by decide) ?_
  refine lv_iand hx hb dJ6_numberOfTrailingZeros_0f7a4_6 ?_
  refine z_i (v := 63) (by decide) ?_
  refine lv_istore_n (lv' := [(0, .int 63)]) hx hb dJ6_numberOfTrailingZeros_0f7a4_7 rfl hl (by decide) rfl (fun ls hl => ?_)
  refine lv_iload_n hx hb dJ6_numberOfTrailingZeros_0f7a4_8 rfl (lv_at hl 0 rfl) ?_
  refine lv_if_gt (tgt := 17) hx hb dJ6_numberOfTrailingZeros_0f7a4_9 (by decide) (fun _ => ?_) (fun h => absurd (by decide) h)
  refine lv_iconst (v := 1) hx hb dJ6_numberOfTrailingZeros_0f7a4_17 (by decide) ?_
  refine lv_istore_n (lv' := [(1, .int 1), (0, .int 63)]) hx hb dJ6_numberOfTrailingZeros_0f7a4_18 rfl hl (by decide) rfl (fun ls hl => ?_)
  refine lv_iload_n hx hb dJ6_numberOfTrailingZeros_0f7a4_19 rfl (lv_at hl 1 rfl) ?_
  refine lv_ldcw (v := 65536) hx hb hown (hts _ kw_706) dJ6_numberOfTrailingZeros_0f7a4_20 ?_
  refine lv_icmp_le (tgt := 34) hx hb dJ6_numberOfTrailingZeros_0f7a4_23 (by decide) (fun _ => ?_) (fun h => absurd (by decide) h)
  refine lv_iload_n hx hb dJ6_numberOfTrailingZeros_0f7a4_34 rfl (lv_at hl 1 rfl) ?_
  refine lv_sipush (v := 256) hx hb dJ6_numberOfTrailingZeros_0f7a4_35 (by decide) ?_
  refine lv_icmp_le (tgt := 49) hx hb dJ6_numberOfTrailingZeros_0f7a4_38 (by decide) (fun _ => ?_) (fun h => absurd (by decide) h)
  refine lv_iload_n hx hb dJ6_numberOfTrailingZeros_0f7a4_49 rfl (lv_at hl 1 rfl) ?_
  refine lv_bipush (v := 16) hx hb dJ6_numberOfTrailingZeros_0f7a4_50 (by decide) ?_
  refine lv_icmp_le (tgt := 62) hx hb dJ6_numberOfTrailingZeros_0f7a4_52 (by decide) (fun h => absurd h (by decide)) (fun _ => ?_)
  refine lv_iinc (v := 5) (lv' := [(1, .int 5), (0, .int 63)]) hx hb dJ6_numberOfTrailingZeros_0f7a4_55 hl (k := 0) rfl (by decide) (by decide) rfl (fun ls hl => ?_)
  refine lv_iload_n hx hb dJ6_numberOfTrailingZeros_0f7a4_58 rfl (lv_at hl 1 rfl) ?_
  refine lv_iconst (v := 4) hx hb dJ6_numberOfTrailingZeros_0f7a4_59 (by decide) ?_
  refine lv_iushr (v := 3) hx hb dJ6_numberOfTrailingZeros_0f7a4_60 (by decide) ?_
  refine lv_istore_n (lv' := [(0, .int 3), (1, .int 5)]) hx hb dJ6_numberOfTrailingZeros_0f7a4_61 rfl hl (by decide) rfl (fun ls hl => ?_)
  refine lv_iload_n hx hb dJ6_numberOfTrailingZeros_0f7a4_62 rfl (lv_at hl 0 rfl) ?_
  refine lv_iconst (v := 4) hx hb dJ6_numberOfTrailingZeros_0f7a4_63 (by decide) ?_
  refine lv_icmp_le (tgt := 74) hx hb dJ6_numberOfTrailingZeros_0f7a4_64 (by decide) (fun _ => ?_) (fun h => absurd (by decide) h)
  refine lv_iload_n hx hb dJ6_numberOfTrailingZeros_0f7a4_74 rfl (lv_at hl 1 rfl) ?_
  refine lv_iload_n hx hb dJ6_numberOfTrailingZeros_0f7a4_75 rfl (lv_at hl 0 rfl) ?_
  refine lv_iconst (v := 1) hx hb dJ6_numberOfTrailingZeros_0f7a4_76 (by decide) ?_
  refine lv_iushr (v := 1) hx hb dJ6_numberOfTrailingZeros_0f7a4_77 (by decide) ?_
  refine lv_iadd hx hb dJ6_numberOfTrailingZeros_0f7a4_78 ?_
  refine z_i (v := 6) (by decide) ?_
  exact rd_i hx hb hr hlocks (rfl) dJ6_numberOfTrailingZeros_0f7a4_79
set_option maxHeartbeats 4000000 in
set_option maxRecDepth 100000 in
theorem j_ntz7 {l : Launch} : RdE l yJ6_numberOfTrailingZeros_0f7a4 cJ6_numberOfTrailingZeros_0f7a4 2 (some .int) 0 (fun _ => True) [.int 128] (.int 7) := by
  refine RdE.of (by decide) (Nat.le_of_ble_eq_true rfl) ?_
  intro p e s m below meth c ls hx hb hr hml hown hts hlocks hE hl
  have hown : s.vm.findClass "java/lang/Integer" = some m.cls := hown
  have hl : lv_has ls 2 [(0, .int 128)] := hl
  refine lv_iload_n hx hb dJ6_numberOfTrailingZeros_0f7a4_0 rfl (lv_at hl 0 rfl) ?_
  refine lv_iconst (v := (-1)) hx hb dJ6_numberOfTrailingZeros_0f7a4_1 (by decide) ?_
  refine lv_ixor hx hb dJ6_numberOfTrailingZeros_0f7a4_2 ?_
  refine z_i (v := (-129)) (by decide) ?_
  refine lv_iload_n hx hb dJ6_numberOfTrailingZeros_0f7a4_3 rfl (lv_at hl 0 rfl) ?_
  refine lv_iconst (v := 1) hx hb dJ6_numberOfTrailingZeros_0f7a4_4 (by decide) ?_
  refine lv_isub hx hb dJ6_numberOfTrailingZeros_0f7a4_5 ?_
  refine z_i (v := 127) (by decide) ?_
  refine lv_iand hx hb dJ6_numberOfTrailingZeros_0f7a4_6 ?_
  refine z_i (v := 127) (by decide) ?_
  refine lv_istore_n (lv' := [(0, .int 127)]) hx hb dJ6_numberOfTrailingZeros_0f7a4_7 rfl hl (by decide) rfl (fun ls hl => ?_)
  refine lv_iload_n hx hb dJ6_numberOfTrailingZeros_0f7a4_8 rfl (lv_at hl 0 rfl) ?_
  refine lv_if_gt (tgt := 17) hx hb dJ6_numberOfTrailingZeros_0f7a4_9 (by decide) (fun _ => ?_) (fun h => absurd (by decide) h)
  refine lv_iconst (v := 1) hx hb dJ6_numberOfTrailingZeros_0f7a4_17 (by decide) ?_
  refine lv_istore_n (lv' := [(1, .int 1), (0, .int 127)]) hx hb dJ6_numberOfTrailingZeros_0f7a4_18 rfl hl (by decide) rfl (fun ls hl => ?_)
  refine lv_iload_n hx hb dJ6_numberOfTrailingZeros_0f7a4_19 rfl (lv_at hl 1 rfl) ?_
  refine lv_ldcw (v := 65536) hx hb hown (hts _ kw_706) dJ6_numberOfTrailingZeros_0f7a4_20 ?_
  refine lv_icmp_le (tgt := 34) hx hb dJ6_numberOfTrailingZeros_0f7a4_23 (by decide) (fun _ => ?_) (fun h => absurd (by decide) h)
  refine lv_iload_n hx hb dJ6_numberOfTrailingZeros_0f7a4_34 rfl (lv_at hl 1 rfl) ?_
  refine lv_sipush (v := 256) hx hb dJ6_numberOfTrailingZeros_0f7a4_35 (by decide) ?_
  refine lv_icmp_le (tgt := 49) hx hb dJ6_numberOfTrailingZeros_0f7a4_38 (by decide) (fun _ => ?_) (fun h => absurd (by decide) h)
  refine lv_iload_n hx hb dJ6_numberOfTrailingZeros_0f7a4_49 rfl (lv_at hl 1 rfl) ?_
  refine lv_bipush (v := 16) hx hb dJ6_numberOfTrailingZeros_0f7a4_50 (by decide) ?_
  refine lv_icmp_le (tgt := 62) hx hb dJ6_numberOfTrailingZeros_0f7a4_52 (by decide) (fun h => absurd h (by decide)) (fun _ => ?_)
  refine lv_iinc (v := 5) (lv' := [(1, .int 5), (0, .int 127)]) hx hb dJ6_numberOfTrailingZeros_0f7a4_55 hl (k := 0) rfl (by decide) (by decide) rfl (fun ls hl => ?_)
  refine lv_iload_n hx hb dJ6_numberOfTrailingZeros_0f7a4_58 rfl (lv_at hl 1 rfl) ?_
  refine lv_iconst (v := 4) hx hb dJ6_numberOfTrailingZeros_0f7a4_59 (by decide) ?_
  refine lv_iushr (v := 7) hx hb dJ6_numberOfTrailingZeros_0f7a4_60 (by decide) ?_
  refine lv_istore_n (lv' := [(0, .int 7), (1, .int 5)]) hx hb dJ6_numberOfTrailingZeros_0f7a4_61 rfl hl (by decide) rfl (fun ls hl => ?_)
  refine lv_iload_n hx hb dJ6_numberOfTrailingZeros_0f7a4_62 rfl (lv_at hl 0 rfl) ?_
  refine lv_iconst (v := 4) hx hb dJ6_numberOfTrailingZeros_0f7a4_63 (by decide) ?_
  refine lv_icmp_le (tgt := 74) hx hb dJ6_numberOfTrailingZeros_0f7a4_64 (by decide) (fun h => absurd h (by decide)) (fun _ => ?_)
  refine lv_iinc (v := 7) (lv' := [(1, .int 7), (0, .int 7)]) hx hb dJ6_numberOfTrailingZeros_0f7a4_67 hl (k := 1) rfl (by decide) (by decide) rfl (fun ls hl => ?_)
  refine lv_iload_n hx hb dJ6_numberOfTrailingZeros_0f7a4_70 rfl (lv_at hl 1 rfl) ?_
  refine lv_iconst (v := 2) hx hb dJ6_numberOfTrailingZeros_0f7a4_71 (by decide) ?_
  refine lv_iushr (v := 1) hx hb dJ6_numberOfTrailingZeros_0f7a4_72 (by decide) ?_
  refine lv_istore_n (lv' := [(0, .int 1), (1, .int 7)]) hx hb dJ6_numberOfTrailingZeros_0f7a4_73 rfl hl (by decide) rfl (fun ls hl => ?_)
  refine lv_iload_n hx hb dJ6_numberOfTrailingZeros_0f7a4_74 rfl (lv_at hl 1 rfl) ?_
  refine lv_iload_n hx hb dJ6_numberOfTrailingZeros_0f7a4_75 rfl (lv_at hl 0 rfl) ?_
  refine lv_iconst (v := 1) hx hb dJ6_numberOfTrailingZeros_0f7a4_76 (by decide) ?_
  refine lv_iushr (v := 0) hx hb dJ6_numberOfTrailingZeros_0f7a4_77 (by decide) ?_
  refine lv_iadd hx hb dJ6_numberOfTrailingZeros_0f7a4_78 ?_
  refine z_i (v := 7) (by decide) ?_
  exact rd_i hx hb hr hlocks (rfl) dJ6_numberOfTrailingZeros_0f7a4_79
set_option maxHeartbeats 4000000 in
set_option maxRecDepth 100000 in
theorem j_ntz8 {l : Launch} : RdE l yJ6_numberOfTrailingZeros_0f7a4 cJ6_numberOfTrailingZeros_0f7a4 2 (some .int) 0 (fun _ => True) [.int 256] (.int 8) := by
  refine RdE.of (by decide) (Nat.le_of_ble_eq_true rfl) ?_
  intro p e s m below meth c ls hx hb hr hml hown hts hlocks hE hl
  have hown : s.vm.findClass "java/lang/Integer" = some m.cls := hown
  have hl : lv_has ls 2 [(0, .int 256)] := hl
  refine lv_iload_n hx hb dJ6_numberOfTrailingZeros_0f7a4_0 rfl (lv_at hl 0 rfl) ?_
  refine lv_iconst (v := (-1)) hx hb dJ6_numberOfTrailingZeros_0f7a4_1 (by decide) ?_
  refine lv_ixor hx hb dJ6_numberOfTrailingZeros_0f7a4_2 ?_
  refine z_i (v := (-257)) (by decide) ?_
  refine lv_iload_n hx hb dJ6_numberOfTrailingZeros_0f7a4_3 rfl (lv_at hl 0 rfl) ?_
  refine lv_iconst (v := 1) hx hb dJ6_numberOfTrailingZeros_0f7a4_4 (by decide) ?_
  refine lv_isub hx hb dJ6_numberOfTrailingZeros_0f7a4_5 ?_
  refine z_i (v := 255) (by decide) ?_
  refine lv_iand hx hb dJ6_numberOfTrailingZeros_0f7a4_6 ?_
  refine z_i (v := 255) (by decide) ?_
  refine lv_istore_n (lv' := [(0, .int 255)]) hx hb dJ6_numberOfTrailingZeros_0f7a4_7 rfl hl (by decide) rfl (fun ls hl => ?_)
  refine lv_iload_n hx hb dJ6_numberOfTrailingZeros_0f7a4_8 rfl (lv_at hl 0 rfl) ?_
  refine lv_if_gt (tgt := 17) hx hb dJ6_numberOfTrailingZeros_0f7a4_9 (by decide) (fun _ => ?_) (fun h => absurd (by decide) h)
  refine lv_iconst (v := 1) hx hb dJ6_numberOfTrailingZeros_0f7a4_17 (by decide) ?_
  refine lv_istore_n (lv' := [(1, .int 1), (0, .int 255)]) hx hb dJ6_numberOfTrailingZeros_0f7a4_18 rfl hl (by decide) rfl (fun ls hl => ?_)
  refine lv_iload_n hx hb dJ6_numberOfTrailingZeros_0f7a4_19 rfl (lv_at hl 1 rfl) ?_
  refine lv_ldcw (v := 65536) hx hb hown (hts _ kw_706) dJ6_numberOfTrailingZeros_0f7a4_20 ?_
  refine lv_icmp_le (tgt := 34) hx hb dJ6_numberOfTrailingZeros_0f7a4_23 (by decide) (fun _ => ?_) (fun h => absurd (by decide) h)
  refine lv_iload_n hx hb dJ6_numberOfTrailingZeros_0f7a4_34 rfl (lv_at hl 1 rfl) ?_
  refine lv_sipush (v := 256) hx hb dJ6_numberOfTrailingZeros_0f7a4_35 (by decide) ?_
  refine lv_icmp_le (tgt := 49) hx hb dJ6_numberOfTrailingZeros_0f7a4_38 (by decide) (fun _ => ?_) (fun h => absurd (by decide) h)
  refine lv_iload_n hx hb dJ6_numberOfTrailingZeros_0f7a4_49 rfl (lv_at hl 1 rfl) ?_
  refine lv_bipush (v := 16) hx hb dJ6_numberOfTrailingZeros_0f7a4_50 (by decide) ?_
  refine lv_icmp_le (tgt := 62) hx hb dJ6_numberOfTrailingZeros_0f7a4_52 (by decide) (fun h => absurd h (by decide)) (fun _ => ?_)
  refine lv_iinc (v := 5) (lv' := [(1, .int 5), (0, .int 255)]) hx hb dJ6_numberOfTrailingZeros_0f7a4_55 hl (k := 0) rfl (by decide) (by decide) rfl (fun ls hl => ?_)
  refine lv_iload_n hx hb dJ6_numberOfTrailingZeros_0f7a4_58 rfl (lv_at hl 1 rfl) ?_
  refine lv_iconst (v := 4) hx hb dJ6_numberOfTrailingZeros_0f7a4_59 (by decide) ?_
  refine lv_iushr (v := 15) hx hb dJ6_numberOfTrailingZeros_0f7a4_60 (by decide) ?_
  refine lv_istore_n (lv' := [(0, .int 15), (1, .int 5)]) hx hb dJ6_numberOfTrailingZeros_0f7a4_61 rfl hl (by decide) rfl (fun ls hl => ?_)
  refine lv_iload_n hx hb dJ6_numberOfTrailingZeros_0f7a4_62 rfl (lv_at hl 0 rfl) ?_
  refine lv_iconst (v := 4) hx hb dJ6_numberOfTrailingZeros_0f7a4_63 (by decide) ?_
  refine lv_icmp_le (tgt := 74) hx hb dJ6_numberOfTrailingZeros_0f7a4_64 (by decide) (fun h => absurd h (by decide)) (fun _ => ?_)
  refine lv_iinc (v := 7) (lv' := [(1, .int 7), (0, .int 15)]) hx hb dJ6_numberOfTrailingZeros_0f7a4_67 hl (k := 1) rfl (by decide) (by decide) rfl (fun ls hl => ?_)
  refine lv_iload_n hx hb dJ6_numberOfTrailingZeros_0f7a4_70 rfl (lv_at hl 1 rfl) ?_
  refine lv_iconst (v := 2) hx hb dJ6_numberOfTrailingZeros_0f7a4_71 (by decide) ?_
  refine lv_iushr (v := 3) hx hb dJ6_numberOfTrailingZeros_0f7a4_72 (by decide) ?_
  refine lv_istore_n (lv' := [(0, .int 3), (1, .int 7)]) hx hb dJ6_numberOfTrailingZeros_0f7a4_73 rfl hl (by decide) rfl (fun ls hl => ?_)
  refine lv_iload_n hx hb dJ6_numberOfTrailingZeros_0f7a4_74 rfl (lv_at hl 1 rfl) ?_
  refine lv_iload_n hx hb dJ6_numberOfTrailingZeros_0f7a4_75 rfl (lv_at hl 0 rfl) ?_
  refine lv_iconst (v := 1) hx hb dJ6_numberOfTrailingZeros_0f7a4_76 (by decide) ?_
  refine lv_iushr (v := 1) hx hb dJ6_numberOfTrailingZeros_0f7a4_77 (by decide) ?_
  refine lv_iadd hx hb dJ6_numberOfTrailingZeros_0f7a4_78 ?_
  refine z_i (v := 8) (by decide) ?_
  exact rd_i hx hb hr hlocks (rfl) dJ6_numberOfTrailingZeros_0f7a4_79
set_option maxHeartbeats 4000000 in
set_option maxRecDepth 100000 in
theorem j_ntz9 {l : Launch} : RdE l yJ6_numberOfTrailingZeros_0f7a4 cJ6_numberOfTrailingZeros_0f7a4 2 (some .int) 0 (fun _ => True) [.int 512] (.int 9) := by
  refine RdE.of (by decide) (Nat.le_of_ble_eq_true rfl) ?_
  intro p e s m below meth c ls hx hb hr hml hown hts hlocks hE hl
  have hown : s.vm.findClass "java/lang/Integer" = some m.cls := hown
  have hl : lv_has ls 2 [(0, .int 512)] := hl
  refine lv_iload_n hx hb dJ6_numberOfTrailingZeros_0f7a4_0 rfl (lv_at hl 0 rfl) ?_
  refine lv_iconst (v := (-1)) hx hb dJ6_numberOfTrailingZeros_0f7a4_1 (by decide) ?_
  refine lv_ixor hx hb dJ6_numberOfTrailingZeros_0f7a4_2 ?_
  refine z_i (v := (-513)) (by decide) ?_
  refine lv_iload_n hx hb dJ6_numberOfTrailingZeros_0f7a4_3 rfl (lv_at hl 0 rfl) ?_
  refine lv_iconst (v := 1) hx hb dJ6_numberOfTrailingZeros_0f7a4_4 (by decide) ?_
  refine lv_isub hx hb dJ6_numberOfTrailingZeros_0f7a4_5 ?_
  refine z_i (v := 511) (by decide) ?_
  refine lv_iand hx hb dJ6_numberOfTrailingZeros_0f7a4_6 ?_
  refine z_i (v := 511) (by decide) ?_
  refine lv_istore_n (lv' := [(0, .int 511)]) hx hb dJ6_numberOfTrailingZeros_0f7a4_7 rfl hl (by decide) rfl (fun ls hl => ?_)
  refine lv_iload_n hx hb dJ6_numberOfTrailingZeros_0f7a4_8 rfl (lv_at hl 0 rfl) ?_
  refine lv_if_gt (tgt := 17) hx hb dJ6_numberOfTrailingZeros_0f7a4_9 (by decide) (fun _ => ?_) (fun h => absurd (by decide) h)
  refine lv_iconst (v := 1) hx hb dJ6_numberOfTrailingZeros_0f7a4_17 (by decide) ?_
  refine lv_istore_n (lv' := [(1, .int 1), (0, .int 511)]) hx hb dJ6_numberOfTrailingZeros_0f7a4_18 rfl hl (by decide) rfl (fun ls hl => ?_)
  refine lv_iload_n hx hb dJ6_numberOfTrailingZeros_0f7a4_19 rfl (lv_at hl 1 rfl) ?_
  refine lv_ldcw (v := 65536) hx hb hown (hts _ kw_706) dJ6_numberOfTrailingZeros_0f7a4_20 ?_
  refine lv_icmp_le (tgt := 34) hx hb dJ6_numberOfTrailingZeros_0f7a4_23 (by decide) (fun _ => ?_) (fun h => absurd (by decide) h)
  refine lv_iload_n hx hb dJ6_numberOfTrailingZeros_0f7a4_34 rfl (lv_at hl 1 rfl) ?_
  refine lv_sipush (v := 256) hx hb dJ6_numberOfTrailingZeros_0f7a4_35 (by decide) ?_
  refine lv_icmp_le (tgt := 49) hx hb dJ6_numberOfTrailingZeros_0f7a4_38 (by decide) (fun h => absurd h (by decide)) (fun _ => ?_)
  refine lv_iinc (v := 9) (lv' := [(1, .int 9), (0, .int 511)]) hx hb dJ6_numberOfTrailingZeros_0f7a4_41 hl (k := 0) rfl (by decide) (by decide) rfl (fun ls hl => ?_)
  refine lv_iload_n hx hb dJ6_numberOfTrailingZeros_0f7a4_44 rfl (lv_at hl 1 rfl) ?_
  refine lv_bipush (v := 8) hx hb dJ6_numberOfTrailingZeros_0f7a4_45 (by decide) ?_
  refine lv_iushr (v := 1) hx hb dJ6_numberOfTrailingZeros_0f7a4_47 (by decide) ?_
  refine lv_istore_n (lv' := [(0, .int 1), (1, .int 9)]) hx hb dJ6_numberOfTrailingZeros_0f7a4_48 rfl hl (by decide) rfl (fun ls hl => ?_)
  refine lv_iload_n hx hb dJ6_numberOfTrailingZeros_0f7a4_49 rfl (lv_at hl 0 rfl) ?_
  refine lv_bipush (v := 16) hx hb dJ6_numberOfTrailingZeros_0f7a4_50 (by decide) ?_
  refine lv_icmp_le (tgt := 62) hx hb dJ6_numberOfTrailingZeros_0f7a4_52 (by decide) (fun _ => ?_) (fun h => absurd (by decide) h)
  refine lv_iload_n hx hb dJ6_numberOfTrailingZeros_0f7a4_62 rfl (lv_at hl 0 rfl) ?_
  refine lv_iconst (v := 4) hx hb dJ6_numberOfTrailingZeros_0f7a4_63 (by decide) ?_
  refine lv_icmp_le (tgt := 74) hx hb dJ6_numberOfTrailingZeros_0f7a4_64 (by decide) (fun _ => ?_) (fun h => absurd (by decide) h)
  refine lv_iload_n hx hb dJ6_numberOfTrailingZeros_0f7a4_74 rfl (lv_at hl 1 rfl) ?_
  refine lv_iload_n hx hb dJ6_numberOfTrailingZeros_0f7a4_75 rfl (lv_at hl 0 rfl) ?_
  refine lv_iconst (v := 1) hx hb dJ6_numberOfTrailingZeros_0f7a4_76 (by decide) ?_
  refine lv_iushr (v := 0) hx hb dJ6_numberOfTrailingZeros_0f7a4_77 (by decide) ?_
  refine lv_iadd hx hb dJ6_numberOfTrailingZeros_0f7a4_78 ?_
  refine z_i (v := 9) (by decide) ?_
  exact rd_i hx hb hr hlocks (rfl) dJ6_numberOfTrailingZeros_0f7a4_79
set_option maxHeartbeats 4000000 in
set_option maxRecDepth 100000 in
theorem j_ntz10 {l : Launch} : RdE l yJ6_numberOfTrailingZeros_0f7a4 cJ6_numberOfTrailingZeros_0f7a4 2 (some .int) 0 (fun _ => True) [.int 1024] (.int 10) := by
  refine RdE.of (by decide) (Nat.le_of_ble_eq_true rfl) ?_
  intro p e s m below meth c ls hx hb hr hml hown hts hlocks hE hl
  have hown : s.vm.findClass "java/lang/Integer" = some m.cls := hown
  have hl : lv_has ls 2 [(0, .int 1024)] := hl
  refine lv_iload_n hx hb dJ6_numberOfTrailingZeros_0f7a4_0 rfl (lv_at hl 0 rfl) ?_
  refine lv_iconst (v := (-1)) hx hb dJ6_numberOfTrailingZeros_0f7a4_1 (by decide) ?_
  refine lv_ixor hx hb dJ6_numberOfTrailingZeros_0f7a4_2 ?_
  refine z_i (v := (-1025)) (by decide) ?_
  refine lv_iload_n hx hb dJ6_numberOfTrailingZeros_0f7a4_3 rfl (lv_at hl 0 rfl) ?_
  refine lv_iconst (v := 1) hx hb dJ6_numberOfTrailingZeros_0f7a4_4 (by decide) ?_
  refine lv_isub hx hb dJ6_numberOfTrailingZeros_0f7a4_5 ?_
  refine z_i (v := 1023) (by decide) ?_
  refine lv_iand hx hb dJ6_numberOfTrailingZeros_0f7a4_6 ?_
  refine z_i (v := 1023) (by decide) ?_
  refine lv_istore_n (lv' := [(0, .int 1023)]) hx hb dJ6_numberOfTrailingZeros_0f7a4_7 rfl hl (by decide) rfl (fun ls hl => ?_)
  refine lv_iload_n hx hb dJ6_numberOfTrailingZeros_0f7a4_8 rfl (lv_at hl 0 rfl) ?_
  refine lv_if_gt (tgt := 17) hx hb dJ6_numberOfTrailingZeros_0f7a4_9 (by decide) (fun _ => ?_) (fun h => absurd (by decide) h)
  refine lv_iconst (v := 1) hx hb dJ6_numberOfTrailingZeros_0f7a4_17 (by decide) ?_
  refine lv_istore_n (lv' := [(1, .int 1), (0, .int 1023)]) hx hb dJ6_numberOfTrailingZeros_0f7a4_18 rfl hl (by decide) rfl (fun ls hl => ?_)
  refine lv_iload_n hx hb dJ6_numberOfTrailingZeros_0f7a4_19 rfl (lv_at hl 1 rfl) ?_
  refine lv_ldcw (v := 65536) hx hb hown (hts _ kw_706) dJ6_numberOfTrailingZeros_0f7a4_20 ?_
  refine lv_icmp_le (tgt := 34) hx hb dJ6_numberOfTrailingZeros_0f7a4_23 (by decide) (fun _ => ?_) (fun h => absurd (by decide) h)
  refine lv_iload_n hx hb dJ6_numberOfTrailingZeros_0f7a4_34 rfl (lv_at hl 1 rfl) ?_
  refine lv_sipush (v := 256) hx hb dJ6_numberOfTrailingZeros_0f7a4_35 (by decide) ?_
  refine lv_icmp_le (tgt := 49) hx hb dJ6_numberOfTrailingZeros_0f7a4_38 (by decide) (fun h => absurd h (by decide)) (fun _ => ?_)
  refine lv_iinc (v := 9) (lv' := [(1, .int 9), (0, .int 1023)]) hx hb dJ6_numberOfTrailingZeros_0f7a4_41 hl (k := 0) rfl (by decide) (by decide) rfl (fun ls hl => ?_)
  refine lv_iload_n hx hb dJ6_numberOfTrailingZeros_0f7a4_44 rfl (lv_at hl 1 rfl) ?_
  refine lv_bipush (v := 8) hx hb dJ6_numberOfTrailingZeros_0f7a4_45 (by decide) ?_
  refine lv_iushr (v := 3) hx hb dJ6_numberOfTrailingZeros_0f7a4_47 (by decide) ?_
  refine lv_istore_n (lv' := [(0, .int 3), (1, .int 9)]) hx hb dJ6_numberOfTrailingZeros_0f7a4_48 rfl hl (by decide) rfl (fun ls hl => ?_)
  refine lv_iload_n hx hb dJ6_numberOfTrailingZeros_0f7a4_49 rfl (lv_at hl 0 rfl) ?_
  refine lv_bipush (v := 16) hx hb dJ6_numberOfTrailingZeros_0f7a4_50 (by decide) ?_
  refine lv_icmp_le (tgt := 62) hx hb dJ6_numberOfTrailingZeros_0f7a4_52 (by decide) (fun _ => ?_) (fun h => absurd (by decide) h)
  refine lv_iload_n hx hb dJ6_numberOfTrailingZeros_0f7a4_62 rfl (lv_at hl 0 rfl) ?_
  refine lv_iconst (v := 4) hx hb dJ6_numberOfTrailingZeros_0f7a4_63 (by decide) ?_
  refine lv_icmp_le (tgt := 74) hx hb dJ6_numberOfTrailingZeros_0f7a4_64 (by decide) (fun _ => ?_) (fun h => absurd (by decide) h)
  refine lv_iload_n hx hb dJ6_numberOfTrailingZeros_0f7a4_74 rfl (lv_at hl 1 rfl) ?_
  refine lv_iload_n hx hb dJ6_numberOfTrailingZeros_0f7a4_75 rfl (lv_at hl 0 rfl) ?_
  refine lv_iconst (v := 1) hx hb dJ6_numberOfTrailingZeros_0f7a4_76 (by decide) ?_
  refine lv_iushr (v := 1) hx hb dJ6_numberOfTrailingZeros_0f7a4_77 (by decide) ?_
  refine lv_iadd hx hb dJ6_numberOfTrailingZeros_0f7a4_78 ?_
  refine z_i (v := 10) (by decide) ?_
  exact rd_i hx hb hr hlocks (rfl) dJ6_numberOfTrailingZeros_0f7a4_79
set_option maxHeartbeats 4000000 in
set_option maxRecDepth 100000 in
theorem j_ntz11 {l : Launch} : RdE l yJ6_numberOfTrailingZeros_0f7a4 cJ6_numberOfTrailingZeros_0f7a4 2 (some .int) 0 (fun _ => True) [.int 2048] (.int 11) := by
  refine RdE.of (by decide) (Nat.le_of_ble_eq_true rfl) ?_
  intro p e s m below meth c ls hx hb hr hml hown hts hlocks hE hl
  have hown : s.vm.findClass "java/lang/Integer" = some m.cls := hown
  have hl : lv_has ls 2 [(0, .int 2048)] := hl
  refine lv_iload_n hx hb dJ6_numberOfTrailingZeros_0f7a4_0 rfl (lv_at hl 0 rfl) ?_
  refine lv_iconst (v := (-1)) hx hb dJ6_numberOfTrailingZeros_0f7a4_1 (by decide) ?_
  refine lv_ixor hx hb dJ6_numberOfTrailingZeros_0f7a4_2 ?_
  refine z_i (v := (-2049)) (by decide) ?_
  refine lv_iload_n hx hb dJ6_numberOfTrailingZeros_0f7a4_3 rfl (lv_at hl 0 rfl) ?_
  refine lv_iconst (v := 1) hx hb dJ6_numberOfTrailingZeros_0f7a4_4 (by decide) ?_
  refine lv_isub hx hb dJ6_numberOfTrailingZeros_0f7a4_5 ?_
  refine z_i (v := 2047) (by decide) ?_
  refine lv_iand hx hb dJ6_numberOfTrailingZeros_0f7a4_6 ?_
  refine z_i (v := 2047) (by decide) ?_
  refine lv_istore_n (lv' := [(0, .int 2047)]) hx hb dJ6_numberOfTrailingZeros_0f7a4_7 rfl hl (by decide) rfl (fun ls hl => ?_)
  refine lv_iload_n hx hb dJ6_numberOfTrailingZeros_0f7a4_8 rfl (lv_at hl 0 rfl) ?_
  refine lv_if_gt (tgt := 17) hx hb dJ6_numberOfTrailingZeros_0f7a4_9 (by decide) (fun _ => ?_) (fun h => absurd (by decide) h)
  refine lv_iconst (v := 1) hx hb dJ6_numberOfTrailingZeros_0f7a4_17 (by decide) ?_
  refine lv_istore_n (lv' := [(1, .int 1), (0, .int 2047)]) hx hb dJ6_numberOfTrailingZeros_0f7a4_18 rfl hl (by decide) rfl (fun ls hl => ?_)
  refine lv_iload_n hx hb dJ6_numberOfTrailingZeros_0f7a4_19 rfl (lv_at hl 1 rfl) ?_
  refine lv_ldcw (v := 65536) hx hb hown (hts _ kw_706) dJ6_numberOfTrailingZeros_0f7a4_20 ?_
  refine lv_icmp_le (tgt := 34) hx hb dJ6_numberOfTrailingZeros_0f7a4_23 (by decide) (fun _ => ?_) (fun h => absurd (by decide) h)
  refine lv_iload_n hx hb dJ6_numberOfTrailingZeros_0f7a4_34 rfl (lv_at hl 1 rfl) ?_
  refine lv_sipush (v := 256) hx hb dJ6_numberOfTrailingZeros_0f7a4_35 (by decide) ?_
  refine lv_icmp_le (tgt := 49) hx hb dJ6_numberOfTrailingZeros_0f7a4_38 (by decide) (fun h => absurd h (by decide)) (fun _ => ?_)
  refine lv_iinc (v := 9) (lv' := [(1, .int 9), (0, .int 2047)]) hx hb dJ6_numberOfTrailingZeros_0f7a4_41 hl (k := 0) rfl (by decide) (by decide) rfl (fun ls hl => ?_)
  refine lv_iload_n hx hb dJ6_numberOfTrailingZeros_0f7a4_44 rfl (lv_at hl 1 rfl) ?_
  refine lv_bipush (v := 8) hx hb dJ6_numberOfTrailingZeros_0f7a4_45 (by decide) ?_
  refine lv_iushr (v := 7) hx hb dJ6_numberOfTrailingZeros_0f7a4_47 (by decide) ?_
  refine lv_istore_n (lv' := [(0, .int 7), (1, .int 9)]) hx hb dJ6_numberOfTrailingZeros_0f7a4_48 rfl hl (by decide) rfl (fun ls hl => ?_)
  refine lv_iload_n hx hb dJ6_numberOfTrailingZeros_0f7a4_49 rfl (lv_at hl 0 rfl) ?_
  refine lv_bipush (v := 16) hx hb dJ6_numberOfTrailingZeros_0f7a4_50 (by decide) ?_
  refine lv_icmp_le (tgt := 62) hx hb dJ6_numberOfTrailingZeros_0f7a4_52 (by decide) (fun _ => ?_) (fun h => absurd (by decide) h)
  refine lv_iload_n hx hb dJ6_numberOfTrailingZeros_0f7a4_62 rfl (lv_at hl 0 rfl) ?_
  refine lv_iconst (v := 4) hx hb dJ6_numberOfTrailingZeros_0f7a4_63 (by decide) ?_
  refine lv_icmp_le (tgt := 74) hx hb dJ6_numberOfTrailingZeros_0f7a4_64 (by decide) (fun h => absurd h (by decide)) (fun _ => ?_)
  refine lv_iinc (v := 11) (lv' := [(1, .int 11), (0, .int 7)]) hx hb dJ6_numberOfTrailingZeros_0f7a4_67 hl (k := 1) rfl (by decide) (by decide) rfl (fun ls hl => ?_)
  refine lv_iload_n hx hb dJ6_numberOfTrailingZeros_0f7a4_70 rfl (lv_at hl 1 rfl) ?_
  refine lv_iconst (v := 2) hx hb dJ6_numberOfTrailingZeros_0f7a4_71 (by decide) ?_
  refine lv_iushr (v := 1) hx hb dJ6_numberOfTrailingZeros_0f7a4_72 (by decide) ?_
  refine lv_istore_n (lv' := [(0, .int 1), (1, .int 11)]) hx hb dJ6_numberOfTrailingZeros_0f7a4_73 rfl hl (by decide) rfl (fun ls hl => ?_)
  refine lv_iload_n hx hb dJ6_numberOfTrailingZeros_0f7a4_74 rfl (lv_at hl 1 rfl) ?_
  refine lv_iload_n hx hb dJ6_numberOfTrailingZeros_0f7a4_75 rfl (lv_at hl 0 rfl) ?_
  refine lv_iconst (v := 1) hx hb dJ6_numberOfTrailingZeros_0f7a4_76 (by decide) ?_
  refine lv_iushr (v := 0) hx hb dJ6_numberOfTrailingZeros_0f7a4_77 (by decide) ?_
  refine lv_iadd hx hb dJ6_numberOfTrailingZeros_0f7a4_78 ?_
  refine z_i (v := 11) (by decide) ?_
  exact rd_i hx hb hr hlocks (rfl) dJ6_numberOfTrailingZeros_0f7a4_79
set_option maxHeartbeats 4000000 in
set_option maxRecDepth 100000 in
theorem j_ntz12 {l : Launch} : RdE l yJ6_numberOfTrailingZeros_0f7a4 cJ6_numberOfTrailingZeros_0f7a4 2 (some .int) 0 (fun _ => True) [.int 4096] (.int 12) := by
  refine RdE.of (by decide) (Nat.le_of_ble_eq_true rfl) ?_
  intro p e s m below meth c ls hx hb hr hml hown hts hlocks hE hl
  have hown : s.vm.findClass "java/lang/Integer" = some m.cls := hown
  have hl : lv_has ls 2 [(0, .int 4096)] := hl
  refine lv_iload_n hx hb dJ6_numberOfTrailingZeros_0f7a4_0 rfl (lv_at hl 0 rfl) ?_
  refine lv_iconst (v := (-1)) hx hb dJ6_numberOfTrailingZeros_0f7a4_1 (by decide) ?_
  refine lv_ixor hx hb dJ6_numberOfTrailingZeros_0f7a4_2 ?_
  refine z_i (v := (-4097)) (by decide) ?_
  refine lv_iload_n hx hb dJ6_numberOfTrailingZeros_0f7a4_3 rfl (lv_at hl 0 rfl) ?_
  refine lv_iconst (v := 1) hx hb dJ6_numberOfTrailingZeros_0f7a4_4 (by decide) ?_
  refine lv_isub hx hb dJ6_numberOfTrailingZeros_0f7a4_5 ?_
  refine z_i (v := 4095) (by decide) ?_
  refine lv_iand hx hb dJ6_numberOfTrailingZeros_0f7a4_6 ?_
  refine z_i (v := 4095) (by decide) ?_
  refine lv_istore_n (lv' := [(0, .int 4095)]) hx hb dJ6_numberOfTrailingZeros_0f7a4_7 rfl hl (by decide) rfl (fun ls hl => ?_)
  refine lv_iload_n hx hb dJ6_numberOfTrailingZeros_0f7a4_8 rfl (lv_at hl 0 rfl) ?_
  refine lv_if_gt (tgt := 17) hx hb dJ6_numberOfTrailingZeros_0f7a4_9 (by decide) (fun _ => ?_) (fun h => absurd (by decide) h)
  refine lv_iconst (v := 1) hx hb dJ6_numberOfTrailingZeros_0f7a4_17 (by decide) ?_
  refine lv_istore_n (lv' := [(1, .int 1), (0, .int 4095)]) hx hb dJ6_numberOfTrailingZeros_0f7a4_18 rfl hl (by decide) rfl (fun ls hl => ?_)
  refine lv_iload_n hx hb dJ6_numberOfTrailingZeros_0f7a4_19 rfl (lv_at hl 1 rfl) ?_
  refine lv_ldcw (v := 65536) hx hb hown (hts _ kw_706) dJ6_numberOfTrailingZeros_0f7a4_20 ?_
  refine lv_icmp_le (tgt := 34) hx hb dJ6_numberOfTrailingZeros_0f7a4_23 (by decide) (fun _ => ?_) (fun h => absurd (by decide) h)
  refine lv_iload_n hx hb dJ6_numberOfTrailingZeros_0f7a4_34 rfl (lv_at hl 1 rfl) ?_
  refine lv_sipush (v := 256) hx hb dJ6_numberOfTrailingZeros_0f7a4_35 (by decide) ?_
  refine lv_icmp_le (tgt := 49) hx hb dJ6_numberOfTrailingZeros_0f7a4_38 (by decide) (fun h => absurd h (by decide)) (fun _ => ?_)
  refine lv_iinc (v := 9) (lv' := [(1, .int 9), (0, .int 4095)]) hx hb dJ6_numberOfTrailingZeros_0f7a4_41 hl (k := 0) rfl (by decide) (by decide) rfl (fun ls hl => ?_)
  refine lv_iload_n hx hb dJ6_numberOfTrailingZeros_0f7a4_44 rfl (lv_at hl 1 rfl) ?_
  refine lv_bipush (v := 8) hx hb dJ6_numberOfTrailingZeros_0f7a4_45 (by decide) ?_
  refine lv_iushr (v := 15) hx hb dJ6_numberOfTrailingZeros_0f7a4_47 (by decide) ?_
  refine lv_istore_n (lv' := [(0, .int 15), (1, .int 9)]) hx hb dJ6_numberOfTrailingZeros_0f7a4_48 rfl hl (by decide) rfl (fun ls hl => ?_)
  refine lv_iload_n hx hb dJ6_numberOfTrailingZeros_0f7a4_49 rfl (lv_at hl 0 rfl) ?_
  refine lv_bipush (v := 16) hx hb dJ6_numberOfTrailingZeros_0f7a4_50 (by decide) ?_
  refine lv_icmp_le (tgt := 62) hx hb dJ6_numberOfTrailingZeros_0f7a4_52 (by decide) (fun _ => ?_) (fun h => absurd (by decide) h)
  refine lv_iload_n hx hb dJ6_numberOfTrailingZeros_0f7a4_62 rfl (lv_at hl 0 rfl) ?_
  refine lv_iconst (v := 4) hx hb dJ6_numberOfTrailingZeros_0f7a4_63 (by decide) ?_
  refine lv_icmp_le (tgt := 74) hx hb dJ6_numberOfTrailingZeros_0f7a4_64 (by decide) (fun h => absurd h (by decide)) (fun _ => ?_)
  refine lv_iinc (v := 11) (lv' := [(1, .int 11), (0, .int 15)]) hx hb dJ6_numberOfTrailingZeros_0f7a4_67 hl (k := 1) rfl (by decide) (by decide) rfl (fun ls hl => ?_)
  refine lv_iload_n hx hb dJ6_numberOfTrailingZeros_0f7a4_70 rfl (lv_at hl 1 rfl) ?_
  refine lv_iconst (v := 2) hx hb dJ6_numberOfTrailingZeros_0f7a4_71 (by decide) ?_
  refine lv_iushr (v := 3) hx hb dJ6_numberOfTrailingZeros_0f7a4_72 (by decide) ?_
  refine lv_istore_n (lv' := [(0, .int 3), (1, .int 11)]) hx hb dJ6_numberOfTrailingZeros_0f7a4_73 rfl hl (by decide) rfl (fun ls hl => ?_)
  refine lv_iload_n hx hb dJ6_numberOfTrailingZeros_0f7a4_74 rfl (lv_at hl 1 rfl) ?_
  refine lv_iload_n hx hb dJ6_numberOfTrailingZeros_0f7a4_75 rfl (lv_at hl 0 rfl) ?_
  refine lv_iconst (v := 1) hx hb dJ6_numberOfTrailingZeros_0f7a4_76 (by decide) ?_
  refine lv_iushr (v := 1) hx hb dJ6_numberOfTrailingZeros_0f7a4_77 (by decide) ?_
  refine lv_iadd hx hb dJ6_numberOfTrailingZeros_0f7a4_78 ?_
  refine z_i (v := 12) (by decide) ?_
  exact rd_i hx hb hr hlocks (rfl) dJ6_numberOfTrailingZeros_0f7a4_79
set_option maxHeartbeats 4000000 in
set_option maxRecDepth 100000 in
theorem j_ntz13 {l : Launch} : RdE l yJ6_numberOfTrailingZeros_0f7a4 cJ6_numberOfTrailingZeros_0f7a4 2 (some .int) 0 (fun _ => True) [.int 8192] (.int 13) := by
  refine RdE.of (by decide) (Nat.le_of_ble_eq_true rfl) ?_
  intro p e s m below meth c ls hx hb hr hml hown hts hlocks hE hl
  have hown : s.vm.findClass "java/lang/Integer" = some m.cls := hown
  have hl : lv_has ls 2 [(0, .int 8192)] := hl
  refine lv_iload_n hx hb dJ6_numberOfTrailingZeros_0f7a4_0 rfl (lv_at hl 0 rfl) ?_
  refine lv_iconst (v := (-1)) hx hb dJ6_numberOfTrailingZeros_0f7a4_1 (by decide) ?_
  refine lv_ixor hx hb dJ6_numberOfTrailingZeros_0f7a4_2 ?_
  refine z_i (v := (-8193)) (by decide) ?_
  refine lv_iload_n hx hb dJ6_numberOfTrailingZeros_0f7a4_3 rfl (lv_at hl 0 rfl) ?_
  refine lv_iconst (v := 1) hx hb dJ6_numberOfTrailingZeros_0f7a4_4 (by decide) ?_
  refine lv_isub hx hb dJ6_numberOfTrailingZeros_0f7a4_5 ?_
  refine z_i (v := 8191) (by decide) ?_
  refine lv_iand hx hb dJ6_numberOfTrailingZeros_0f7a4_6 ?_
  refine z_i (v := 8191) (by decide) ?_
  refine lv_istore_n (lv' := [(0, .int 8191)]) hx hb dJ6_numberOfTrailingZeros_0f7a4_7 rfl hl (by decide) rfl (fun ls hl => ?_)
  refine lv_iload_n hx hb dJ6_numberOfTrailingZeros_0f7a4_8 rfl (lv_at hl 0 rfl) ?_
  refine lv_if_gt (tgt := 17) hx hb dJ6_numberOfTrailingZeros_0f7a4_9 (by decide) (fun _ => ?_) (fun h => absurd (by decide) h)
  refine lv_iconst (v := 1) hx hb dJ6_numberOfTrailingZeros_0f7a4_17 (by decide) ?_
  refine lv_istore_n (lv' := [(1, .int 1), (0, .int 8191)]) hx hb dJ6_numberOfTrailingZeros_0f7a4_18 rfl hl (by decide) rfl (fun ls hl => ?_)
  refine lv_iload_n hx hb dJ6_numberOfTrailingZeros_0f7a4_19 rfl (lv_at hl 1 rfl) ?_
  refine lv_ldcw (v := 65536) hx hb hown (hts _ kw_706) dJ6_numberOfTrailingZeros_0f7a4_20 ?_
  refine lv_icmp_le (tgt := 34) hx hb dJ6_numberOfTrailingZeros_0f7a4_23 (by decide) (fun _ => ?_) (fun h => absurd (by decide) h)
  refine lv_iload_n hx hb dJ6_numberOfTrailingZeros_0f7a4_34 rfl (lv_at hl 1 rfl) ?_
  refine lv_sipush (v := 256) hx hb dJ6_numberOfTrailingZeros_0f7a4_35 (by decide) ?_
  refine lv_icmp_le (tgt := 49) hx hb dJ6_numberOfTrailingZeros_0f7a4_38 (by decide) (fun h => absurd h (by decide)) (fun _ => ?_)
  refine lv_iinc (v := 9) (lv' := [(1, .int 9), (0, .int 8191)]) hx hb dJ6_numberOfTrailingZeros_0f7a4_41 hl (k := 0) rfl (by decide) (by decide) rfl (fun ls hl => ?_)
  refine lv_iload_n hx hb dJ6_numberOfTrailingZeros_0f7a4_44 rfl (lv_at hl 1 rfl) ?_
  refine lv_bipush (v := 8) hx hb dJ6_numberOfTrailingZeros_0f7a4_45 (by decide) ?_
  refine lv_iushr (v := 31) hx hb dJ6_numberOfTrailingZeros_0f7a4_47 (by decide) ?_
  refine lv_istore_n (lv' := [(0, .int 31), (1, .int 9)]) hx hb dJ6_numberOfTrailingZeros_0f7a4_48 rfl hl (by decide) rfl (fun ls hl => ?_)
  refine lv_iload_n hx hb dJ6_numberOfTrailingZeros_0f7a4_49 rfl (lv_at hl 0 rfl) ?_
  refine lv_bipush (v := 16) hx hb dJ6_numberOfTrailingZeros_0f7a4_50 (by decide) ?_
  refine lv_icmp_le (tgt := 62) hx hb dJ6_numberOfTrailingZeros_0f7a4_52 (by decide) (fun h => absurd h (by decide)) (fun _ => ?_)
  refine lv_iinc (v := 13) (lv' := [(1, .int 13), (0, .int 31)]) hx hb dJ6_numberOfTrailingZeros_0f7a4_55 hl (k := 1) rfl (by decide) (by decide) rfl (fun ls hl => ?_)
  refine lv_iload_n hx hb dJ6_numberOfTrailingZeros_0f7a4_58 rfl (lv_at hl 1 rfl) ?_
  refine lv_iconst (v := 4) hx hb dJ6_numberOfTrailingZeros_0f7a4_59 (by decide) ?_
  refine lv_iushr (v := 1) hx hb dJ6_numberOfTrailingZeros_0f7a4_60 (by decide) ?_
  refine lv_istore_n (lv' := [(0, .int 1), (1, .int 13)]) hx hb dJ6_numberOfTrailingZeros_0f7a4_61 rfl hl (by decide) rfl (fun ls hl => ?_)
  refine lv_iload_n hx hb dJ6_numberOfTrailingZeros_0f7a4_62 rfl (lv_at hl 0 rfl) ?_
  refine lv_iconst (v := 4) hx hb dJ6_numberOfTrailingZeros_0f7a4_63 (by decide) ?_
  refine lv_icmp_le (tgt := 74) hx hb dJ6_numberOfTrailingZeros_0f7a4_64 (by decide) (fun _ => ?_) (fun h => absurd (by decide) h)
  refine lv_iload_n hx hb dJ6_numberOfTrailingZeros_0f7a4_74 rfl (lv_at hl 1 rfl) ?_
  refine lv_iload_n hx hb dJ6_numberOfTrailingZeros_0f7a4_75 rfl (lv_at hl 0 rfl) ?_
  refine lv_iconst (v := 1) hx hb dJ6_numberOfTrailingZeros_0f7a4_76 (by decide) ?_
  refine lv_iushr (v := 0) hx hb dJ6_numberOfTrailingZeros_0f7a4_77 (by decide) ?_
  refine lv_iadd hx hb dJ6_numberOfTrailingZeros_0f7a4_78 ?_
  refine z_i (v := 13) (by decide) ?_
  exact rd_i hx hb hr hlocks (rfl) dJ6_numberOfTrailingZeros_0f7a4_79
set_option maxHeartbeats 4000000 in
set_option maxRecDepth 100000 in
theorem j_ntz14 {l : Launch} : RdE l yJ6_numberOfTrailingZeros_0f7a4 cJ6_numberOfTrailingZeros_0f7a4 2 (some .int) 0 (fun _ => True) [.int 16384] (.int 14) := by
  refine RdE.of (by decide) (Nat.le_of_ble_eq_true rfl) ?_
  intro p e s m below meth c ls hx hb hr hml hown hts hlocks hE hl
  have hown : s.vm.findClass "java/lang/Integer" = some m.cls := hown
  have hl : lv_has ls 2 [(0, .int 16384)] := hl
  refine lv_iload_n hx hb dJ6_numberOfTrailingZeros_0f7a4_0 rfl (lv_at hl 0 rfl) ?_
  refine lv_iconst (v := (-1)) hx hb dJ6_numberOfTrailingZeros_0f7a4_1 (by decide) ?_
  refine lv_ixor hx hb dJ6_numberOfTrailingZeros_0f7a4_2 ?_
  refine z_i (v := (-16385)) (by decide) ?_
  refine lv_iload_n hx hb dJ6_numberOfTrailingZeros_0f7a4_3 rfl (lv_at hl 0 rfl) ?_
  refine lv_iconst (v := 1) hx hb dJ6_numberOfTrailingZeros_0f7a4_4 (by decide) ?_
  refine lv_isub hx hb dJ6_numberOfTrailingZeros_0f7a4_5 ?_
  refine z_i (v := 16383) (by decide) ?_
  refine lv_iand hx hb dJ6_numberOfTrailingZeros_0f7a4_6 ?_
  refine z_i (v := 16383) (by decide) ?_
  refine lv_istore_n (lv' := [(0, .int 16383)]) hx hb dJ6_numberOfTrailingZeros_0f7a4_7 rfl hl (by decide) rfl (fun ls hl => ?_)
  refine lv_iload_n hx hb dJ6_numberOfTrailingZeros_0f7a4_8 rfl (lv_at hl 0 rfl) ?_
  refine lv_if_gt (tgt := 17) hx hb dJ6_numberOfTrailingZeros_0f7a4_9 (by decide) (fun _ => ?_) (fun h => absurd (by decide) h)
  refine lv_iconst (v := 1) hx hb dJ6_numberOfTrailingZeros_0f7a4_17 (by decide) ?_
  refine lv_istore_n (lv' := [(1, .int 1), (0, .int 16383)]) hx hb dJ6_numberOfTrailingZeros_0f7a4_18 rfl hl (by decide) rfl (fun ls hl => ?_)
  refine lv_iload_n hx hb dJ6_numberOfTrailingZeros_0f7a4_19 rfl (lv_at hl 1 rfl) ?_
  refine lv_ldcw (v := 65536) hx hb hown (hts _ kw_706) dJ6_numberOfTrailingZeros_0f7a4_20 ?_
  refine lv_icmp_le (tgt := 34) hx hb dJ6_numberOfTrailingZeros_0f7a4_23 (by decide) (fun _ => ?_) (fun h => absurd (by decide) h)
  refine lv_iload_n hx hb dJ6_numberOfTrailingZeros_0f7a4_34 rfl (lv_at hl 1 rfl) ?_
  refine lv_sipush (v := 256) hx hb dJ6_numberOfTrailingZeros_0f7a4_35 (by decide) ?_
  refine lv_icmp_le (tgt := 49) hx hb dJ6_numberOfTrailingZeros_0f7a4_38 (by decide) (fun h => absurd h (by decide)) (fun _ => ?_)
  refine lv_iinc (v := 9) (lv' := [(1, .int 9), (0, .int 16383)]) hx hb dJ6_numberOfTrailingZeros_0f7a4_41 hl (k := 0) rfl (by decide) (by decide) rfl (fun ls hl => ?_)
  refine lv_iload_n hx hb dJ6_numberOfTrailingZeros_0f7a4_44 rfl (lv_at hl 1 rfl) ?_
  refine lv_bipush (v := 8) hx hb dJ6_numberOfTrailingZeros_0f7a4_45 (by decide) ?_
  refine lv_iushr (v := 63) hx hb dJ6_numberOfTrailingZeros_0f7a4_47 (by decide) ?_
  refine lv_istore_n (lv' := [(0, .int 63), (1, .int 9)]) hx hb dJ6_numberOfTrailingZeros_0f7a4_48 rfl hl (by decide) rfl (fun ls hl => ?_)
  refine lv_iload_n hx hb dJ6_numberOfTrailingZeros_0f7a4_49 rfl (lv_at hl 0 rfl) ?_
  refine lv_bipush (v := 16) hx hb dJ6_numberOfTrailingZeros_0f7a4_50 (by decide) ?_
  refine lv_icmp_le (tgt := 62) hx hb dJ6_numberOfTrailingZeros_0f7a4_52 (by decide) (fun h => absurd h (by decide)) (fun _ => ?_)
  refine lv_iinc (v := 13) (lv' := [(1, .int 13), (0, .int 63)]) hx hb dJ6_numberOfTrailingZeros_0f7a4_55 hl (k := 1) rfl (by decide) (by decide) rfl (fun ls hl => ?_)
  refine lv_iload_n hx hb dJ6_numberOfTrailingZeros_0f7a4_58 rfl (lv_at hl 1 rfl) ?_
  refine lv_iconst (v := 4) hx hb dJ6_numberOfTrailingZeros_0f7a4_59 (by decide) ?_
  refine lv_iushr (v := 3) hx hb dJ6_numberOfTrailingZeros_0f7a4_60 (by decide) ?_
  refine lv_istore_n (lv' := [(0, .int 3), (1, .int 13)]) hx hb dJ6_numberOfTrailingZeros_0f7a4_61 rfl hl (by decide) rfl (fun ls hl => ?_)
  refine lv_iload_n hx hb dJ6_numberOfTrailingZeros_0f7a4_62 rfl (lv_at hl 0 rfl) ?_
  refine lv_iconst (v := 4) hx hb dJ6_numberOfTrailingZeros_0f7a4_63 (by decide) ?_
  refine lv_icmp_le (tgt := 74) hx hb dJ6_numberOfTrailingZeros_0f7a4_64 (by decide) (fun _ => ?_) (fun h => absurd (by decide) h)
  refine lv_iload_n hx hb dJ6_numberOfTrailingZeros_0f7a4_74 rfl (lv_at hl 1 rfl) ?_
  refine lv_iload_n hx hb dJ6_numberOfTrailingZeros_0f7a4_75 rfl (lv_at hl 0 rfl) ?_
  refine lv_iconst (v := 1) hx hb dJ6_numberOfTrailingZeros_0f7a4_76 (by decide) ?_
  refine lv_iushr (v := 1) hx hb dJ6_numberOfTrailingZeros_0f7a4_77 (by decide) ?_
  refine lv_iadd hx hb dJ6_numberOfTrailingZeros_0f7a4_78 ?_
  refine z_i (v := 14) (by decide) ?_
  exact rd_i hx hb hr hlocks (rfl) dJ6_numberOfTrailingZeros_0f7a4_79
set_option maxHeartbeats 4000000 in
set_option maxRecDepth 100000 in
theorem j_ntz15 {l : Launch} : RdE l yJ6_numberOfTrailingZeros_0f7a4 cJ6_numberOfTrailingZeros_0f7a4 2 (some .int) 0 (fun _ => True) [.int 32768] (.int 15) := by
  refine RdE.of (by decide) (Nat.le_of_ble_eq_true rfl) ?_
  intro p e s m below meth c ls hx hb hr hml hown hts hlocks hE hl
  have hown : s.vm.findClass "java/lang/Integer" = some m.cls := hown
  have hl : lv_has ls 2 [(0, .int 32768)] := hl
  refine lv_iload_n hx hb dJ6_numberOfTrailingZeros_0f7a4_0 rfl (lv_at hl 0 rfl) ?_
  refine lv_iconst (v := (-1)) hx hb dJ6_numberOfTrailingZeros_0f7a4_1 (by decide) ?_
  refine lv_ixor hx hb dJ6_numberOfTrailingZeros_0f7a4_2 ?_
  refine z_i (v := (-32769)) (by decide) ?_
  refine lv_iload_n hx hb dJ6_numberOfTrailingZeros_0f7a4_3 rfl (lv_at hl 0 rfl) ?_
  refine lv_iconst (v := 1) hx hb dJ6_numberOfTrailingZeros_0f7a4_4 (by decide) ?_
  refine lv_isub hx hb dJ6_numberOfTrailingZeros_0f7a4_5 ?_
  refine z_i (v := 32767) (by decide) ?_
  refine lv_iand hx hb dJ6_numberOfTrailingZeros_0f7a4_6 ?_
  refine z_i (v := 32767) (by decide) ?_
  refine lv_istore_n (lv' := [(0, .int 32767)]) hx hb dJ6_numberOfTrailingZeros_0f7a4_7 rfl hl (by decide) rfl (fun ls hl => ?_)
  refine lv_iload_n hx hb dJ6_numberOfTrailingZeros_0f7a4_8 rfl (lv_at hl 0 rfl) ?_
  refine lv_if_gt (tgt := 17) hx hb dJ6_numberOfTrailingZeros_0f7a4_9 (by decide) (fun _ => ?_) (fun h => absurd (by decide) h)
  refine lv_iconst (v := 1) hx hb dJ6_numberOfTrailingZeros_0f7a4_17 (by decide) ?_
  refine lv_istore_n (lv' := [(1, .int 1), (0, .int 32767)]) hx hb dJ6_numberOfTrailingZeros_0f7a4_18 rfl hl (by decide) rfl (fun ls hl => ?_)
  refine lv_iload_n hx hb dJ6_numberOfTrailingZeros_0f7a4_19 rfl (lv_at hl 1 rfl) ?_
  refine lv_ldcw (v := 65536) hx hb hown (hts _ kw_706) dJ6_numberOfTrailingZeros_0f7a4_20 ?_
  refine lv_icmp_le (tgt := 34) hx hb dJ6_numberOfTrailingZeros_0f7a4_23 (by decide) (fun _ => ?_) (fun h => absurd (by decide) h)
  refine lv_iload_n hx hb dJ6_numberOfTrailingZeros_0f7a4_34 rfl (lv_at hl 1 rfl) ?_
  refine lv_sipush (v := 256) hx hb dJ6_numberOfTrailingZeros_0f7a4_35 (by decide) ?_
  refine lv_icmp_le (tgt := 49) hx hb dJ6_numberOfTrailingZeros_0f7a4_38 (by decide) (fun h => absurd h (by decide)) (fun _ => ?_)
  refine lv_iinc (v := 9) (lv' := [(1, .int 9), (0, .int 32767)]) hx hb dJ6_numberOfTrailingZeros_0f7a4_41 hl (k := 0) rfl (by decide) (by decide) rfl (fun ls hl => ?_)
  refine lv_iload_n hx hb dJ6_numberOfTrailingZeros_0f7a4_44 rfl (lv_at hl 1 rfl) ?_
  refine lv_bipush (v := 8) hx hb dJ6_numberOfTrailingZeros_0f7a4_45 (by decide) ?_
  refine lv_iushr (v := 127) hx hb dJ6_numberOfTrailingZeros_0f7a4_47 (by decide) ?_
  refine lv_istore_n (lv' := [(0, .int 127), (1, .int 9)]) hx hb dJ6_numberOfTrailingZeros_0f7a4_48 rfl hl (by decide) rfl (fun ls hl => ?_)
  refine lv_iload_n hx hb dJ6_numberOfTrailingZeros_0f7a4_49 rfl (lv_at hl 0 rfl) ?_
  refine lv_bipush (v := 16) hx hb dJ6_numberOfTrailingZeros_0f7a4_50 (by decide) ?_
  refine lv_icmp_le (tgt := 62) hx hb dJ6_numberOfTrailingZeros_0f7a4_52 (by decide) (fun h => absurd h (by decide)) (fun _ => ?_)
  refine lv_iinc (v := 13) (lv' := [(1, .int 13), (0, .int 127)]) hx hb dJ6_numberOfTrailingZeros_0f7a4_55 hl (k := 1) rfl (by decide) (by decide) rfl (fun ls hl => ?_)
  refine lv_iload_n hx hb dJ6_numberOfTrailingZeros_0f7a4_58 rfl (lv_at hl 1 rfl) ?_
  refine lv_iconst (v := 4) hx hb dJ6_numberOfTrailingZeros_0f7a4_59 (by decide) ?_
  refine lv_iushr (v := 7) hx hb dJ6_numberOfTrailingZeros_0f7a4_60 (by decide) ?_
  refine lv_istore_n (lv' := [(0, .int 7), (1, .int 13)]) hx hb dJ6_numberOfTrailingZeros_0f7a4_61 rfl hl (by decide) rfl (fun ls hl => ?_)
  refine lv_iload_n hx hb dJ6_numberOfTrailingZeros_0f7a4_62 rfl (lv_at hl 0 rfl) ?_
  refine lv_iconst (v := 4) hx hb dJ6_numberOfTrailingZeros_0f7a4_63 (by decide) ?_
  refine lv_icmp_le (tgt := 74) hx hb dJ6_numberOfTrailingZeros_0f7a4_64 (by decide) (fun h => absurd h (by decide)) (fun _ => ?_)
  refine lv_iinc (v := 15) (lv' := [(1, .int 15), (0, .int 7)]) hx hb dJ6_numberOfTrailingZeros_0f7a4_67 hl (k := 1) rfl (by decide) (by decide) rfl (fun ls hl => ?_)
  refine lv_iload_n hx hb dJ6_numberOfTrailingZeros_0f7a4_70 rfl (lv_at hl 1 rfl) ?_
  refine lv_iconst (v := 2) hx hb dJ6_numberOfTrailingZeros_0f7a4_71 (by decide) ?_
  refine lv_iushr (v := 1) hx hb dJ6_numberOfTrailingZeros_0f7a4_72 (by decide) ?_
  refine lv_istore_n (lv' := [(0, .int 1), (1, .int 15)]) hx hb dJ6_numberOfTrailingZeros_0f7a4_73 rfl hl (by decide) rfl (fun ls hl => ?_)
  refine lv_iload_n hx hb dJ6_numberOfTrailingZeros_0f7a4_74 rfl (lv_at hl 1 rfl) ?_
  refine lv_iload_n hx hb dJ6_numberOfTrailingZeros_0f7a4_75 rfl (lv_at hl 0 rfl) ?_
  refine lv_iconst (v := 1) hx hb dJ6_numberOfTrailingZeros_0f7a4_76 (by decide) ?_
  refine lv_iushr (v := 0) hx hb dJ6_numberOfTrailingZeros_0f7a4_77 (by decide) ?_
  refine lv_iadd hx hb dJ6_numberOfTrailingZeros_0f7a4_78 ?_
  refine z_i (v := 15) (by decide) ?_
  exact rd_i hx hb hr hlocks (rfl) dJ6_numberOfTrailingZeros_0f7a4_79
theorem j_ntz {l : Launch} (j : Nat) (hj : j < 16) : RdE l yJ6_numberOfTrailingZeros_0f7a4 cJ6_numberOfTrailingZeros_0f7a4 2 (some .int) 0 (fun _ => True) [.int (nI (2 ^ j))] (.int (nI j)) := by
  rcases (show j = 0 ∨ j = 1 ∨ j = 2 ∨ j = 3 ∨ j = 4 ∨ j = 5 ∨ j = 6 ∨ j = 7 ∨ j = 8 ∨ j = 9 ∨ j = 10 ∨ j = 11 ∨ j = 12 ∨ j = 13 ∨ j = 14 ∨ j = 15 by omega) with rfl | rfl | rfl | rfl | rfl | rfl | rfl | rfl | rfl | rfl | rfl | rfl | rfl | rfl | rfl | rfl
  · exact j_ntz0
  · exact j_ntz1
  · exact j_ntz2
  · exact j_ntz3
  · exact j_ntz4
  · exact j_ntz5
  · exact j_ntz6
  · exact j_ntz7
  · exact j_ntz8
  · exact j_ntz9
  · exact j_ntz10
  · exact j_ntz11
  · exact j_ntz12
  · exact j_ntz13
  · exact j_ntz14
  · exact j_ntz15
set_option maxHeartbeats 4000000 in
set_option maxRecDepth 100000 in
theorem wX5_listHands {l : Launch} {D : va_G} {sz : Nat} (h0 : Nat) (b0 : Nat) (b1 : Nat) (b2 : Nat) (b3 : Nat) (b4 : Nat) (b5 : Nat) (b6 : Nat) (b7 : Nat) (c2 : Int32) (k5 : ClassId) (f5 : Nat → Int32) : Wv l yX5_listHands cX5_listHands 5 1 0 0 D [(h0, .inr (5, [.int 4, .int 4, .int (-1), .int 0, .ref b0, .ref b1, .ref b2, .ref b3, .ref b4, .int 0, .int 16, .int 4, .ref b5, .ref b6, .ref b7, .int c2])), (b7, .inl (k5, 1820, .inl f5))] [(k5, .int)] [.ref h0] sz (fun _ => True) (fun q k g gl => [(h0, .inr (5, [.int 4, .int 4, .int (-1), .int 0, .ref b0, .ref b1, .ref b2, .ref b3, .ref b4, .int 0, .int 16, .int 4, .ref b5, .ref b6, .ref b7, .int 1820])), (b7, .inl (k5, 1820, .inl (g 5)))]) (fun k => [(k5, .int)]) := by
  refine Wv.of (by decide) (Nat.le_of_ble_eq_true rfl) ?_
  intro p e s m below meth c ls A hx hb hr hml hown hts hlocks hin hP hK hD hA hS hE hAe hl
  have hown : s.vm.findClass "SignalTable$Laws" = some m.cls := hown
  have hin : meth.name = "listHands" := hin
  skip
  have hl : lv_has ls 5 [(0, .ref h0)] := hl
  generalize hQ : MQ below _ _ _ _ _ _ = Q0
  refine lv_aload_n hx hb dX5_listHands_0 rfl (lv_at hl 0 rfl) ?_
  refine lv_iconst (v := 0) hx hb dX5_listHands_1 (by decide) ?_
  refine va_put (D := D) (ci := 5) (v := .int 0) (ty := .int) (C := RX5) (T := TX5) (N := 16) hx hb hts inX5 tyX5 tyX5_ok nmX5 hown hK hP hD hS 0 rfl rfl 15 (by decide) (hts _ kw_245) (fun _ h9 => h9) rfl (by decide +kernel) rfl rfl (Nat.le_of_ble_eq_true rfl) dX5_listHands_2 (fun H locs hP hD hS => ?_)
  have hP : va_P D vwCl [(h0, .inr (5, [.int 4, .int 4, .int (-1), .int 0, .ref b0, .ref b1, .ref b2, .ref b3, .ref b4, .int 0, .int 16, .int 4, .ref b5, .ref b6, .ref b7, .int 0])), (b7, .inl (k5, 1820, .inl f5))] H := hP
  have hD : va_D A [(h0, .inr (5, [.int 4, .int 4, .int (-1), .int 0, .ref b0, .ref b1, .ref b2, .ref b3, .ref b4, .int 0, .int 16, .int 4, .ref b5, .ref b6, .ref b7, .int 0])), (b7, .inl (k5, 1820, .inl f5))] := hD
  refine lv_iconst (v := 1) hx hb dX5_listHands_5 (by decide) ?_
  refine lv_aload_n hx hb dX5_listHands_6 rfl (lv_at hl 0 rfl) ?_
  refine va_get (D := D) (ci := 5) (v := .int 4) (C := RX5) (T := TX5) (N := 16) hx hb hts inX5 hown hK hP 0 rfl rfl 11 (by decide) (hts _ kw_229) (fun _ h9 => h9) rfl dX5_listHands_7 ?_
  refine lv_ishl hx hb dX5_listHands_10 ?_
  refine z_i (v := 16) (by decide) ?_
  refine lv_iconst (v := 1) hx hb dX5_listHands_11 (by decide) ?_
  refine lv_isub hx hb dX5_listHands_12 ?_
  refine z_i (v := 15) (by decide) ?_
  refine lv_istore_n (lv' := [(1, .int 15), (0, .ref h0)]) hx hb dX5_listHands_13 rfl hl (by decide) rfl (fun ls hl => ?_)
  refine lv_iconst (v := 0) hx hb dX5_listHands_14 (by decide) ?_
  refine lv_istore_n (lv' := [(2, .int 0), (1, .int 15), (0, .ref h0)]) hx hb dX5_listHands_15 rfl hl (by decide) rfl (fun ls hl => ?_)
  have loop : ∀ (k i : Nat) (x : Int32) (fw : Nat → Int32) (H : Heap) (locs : List Loc) (ls : Array Slot), i + k = 1820 → lchk k x = true → va_P D vwCl [(h0, .inr (5, [.int 4, .int 4, .int (-1), .int 0, .ref b0, .ref b1, .ref b2, .ref b3, .ref b4, .int 0, .int 16, .int 4, .ref b5, .ref b6, .ref b7, .int (nI i)])), (b7, .inl (k5, 1820, .inl fw))] H → va_D A [(h0, .inr (5, [.int 4, .int 4, .int (-1), .int 0, .ref b0, .ref b1, .ref b2, .ref b3, .ref b4, .int 0, .int 16, .int 4, .ref b5, .ref b6, .ref b7, .int (nI i)])), (b7, .inl (k5, 1820, .inl fw))] → va_S A s.heap H locs → lv_has ls 5 [(2, .int (nI i)), (1, .int x), (0, .ref h0)] → W p l e (rmU 1 0 0) s m [Value.ref h0].toArray below meth c H locs 0 0 Q0 (F0 m 16 ls []) := by
    intro k
    induction k with
    | zero =>
      intro i x fw H locs ls hi hc hP hD hS hl
      obtain rfl : i = 1820 := by omega
      refine lv_iload_n hx hb dX5_listHands_16 rfl (lv_at hl 0 rfl) ?_
      refine lv_aload_n hx hb dX5_listHands_17 rfl (lv_at hl 2 rfl) ?_
      refine va_get (D := D) (ci := 5) (v := .ref b7) (C := RX5) (T := TX5) (N := 16) hx hb hts inX5 hown hK hP 0 rfl rfl 14 (by decide) (hts _ kw_240) (fun _ h9 => h9) rfl dX5_listHands_18 ?_
      refine va_alen (v := 1820) hx hb hK hP 1 0 rfl rfl rfl dX5_listHands_21 ?_
      refine lv_icmp_ge (tgt := 83) hx hb dX5_listHands_22 (by decide) (fun _ => ?_) (fun h => absurd (nI_le (Nat.le_refl 1820) (by decide)) h)
      rw [← hQ]
      exact wr_v (q := (fun _ => 0)) (k := (fun _ => 0)) (g := (fun i => match i with | 5 => fw | _ => fun _ => 0)) (gl := (fun _ => fun _ => 0)) hx hb hr hlocks hS (hP.sub [0, 1] rfl) (hK.sub [0] rfl) (hD.sub [0, 1] (by decide) rfl) dX5_listHands_83
    | succ k ih =>
      intro i x fw H locs ls hi hc hP hD hS hl
      obtain ⟨j, ej⟩ : ∃ j, j = ltz (x &&& (-x)) := ⟨_, rfl⟩
      simp only [lchk, Bool.and_eq_true, decide_eq_true_eq] at hc
      obtain ⟨hlt, hlo, hj, hch⟩ := hc
      rw [← ej] at hlo hj
      refine lv_iload_n hx hb dX5_listHands_16 rfl (lv_at hl 0 rfl) ?_
      refine lv_aload_n hx hb dX5_listHands_17 rfl (lv_at hl 2 rfl) ?_
      refine va_get (D := D) (ci := 5) (v := .ref b7) (C := RX5) (T := TX5) (N := 16) hx hb hts inX5 hown hK hP 0 rfl rfl 14 (by decide) (hts _ kw_240) (fun _ h9 => h9) rfl dX5_listHands_18 ?_
      refine va_alen (v := 1820) hx hb hK hP 1 0 rfl rfl rfl dX5_listHands_21 ?_
      refine lv_icmp_ge (tgt := 83) hx hb dX5_listHands_22 (by decide) (fun h => absurd h (nI_ge (a := i) (b := 1820) (by omega) (by decide))) (fun _ => ?_)
      refine lv_iload_n hx hb dX5_listHands_25 rfl (lv_at hl 1 rfl) ?_
      refine lv_iconst (v := 1) hx hb dX5_listHands_26 (by decide) ?_
      refine lv_aload_n hx hb dX5_listHands_27 rfl (lv_at hl 2 rfl) ?_
      refine va_get (D := D) (ci := 5) (v := .int 16) (C := RX5) (T := TX5) (N := 16) hx hb hts inX5 hown hK hP 0 rfl rfl 10 (by decide) (hts _ kw_222) (fun _ h9 => h9) rfl dX5_listHands_28 ?_
      refine lv_ishl hx hb dX5_listHands_31 ?_
      refine z_i (v := 65536) (by decide) ?_
      refine lv_icmp_ge (tgt := 83) hx hb dX5_listHands_32 (by decide) (fun h => absurd h (Int32.not_le.mpr hlt)) (fun _ => ?_)
      refine lv_aload_n hx hb dX5_listHands_35 rfl (lv_at hl 2 rfl) ?_
      refine va_get (D := D) (ci := 5) (v := .ref b7) (C := RX5) (T := TX5) (N := 16) hx hb hts inX5 hown hK hP 0 rfl rfl 14 (by decide) (hts _ kw_240) (fun _ h9 => h9) rfl dX5_listHands_36 ?_
      refine lv_iload_n hx hb dX5_listHands_39 rfl (lv_at hl 0 rfl) ?_
      refine lv_iload_n hx hb dX5_listHands_40 rfl (lv_at hl 1 rfl) ?_
      refine va_iast hx hb hK hP hD hS 1 0 rfl rfl (vp_in_nI (n := i) (N := 1820) (by omega) (by decide)) dX5_listHands_41 (fun H locs hP hD hS => ?_)
      obtain ⟨f41_1, hf41_1⟩ : ∃ z, z = upd fw (((nI i) : Int32).toNatClampNeg) x := ⟨_, rfl⟩
      rw [← hf41_1] at hP hD
      have hP : va_P D vwCl [(h0, .inr (5, [.int 4, .int 4, .int (-1), .int 0, .ref b0, .ref b1, .ref b2, .ref b3, .ref b4, .int 0, .int 16, .int 4, .ref b5, .ref b6, .ref b7, .int (nI i)])), (b7, .inl (k5, 1820, .inl f41_1))] H := hP
      have hD : va_D A [(h0, .inr (5, [.int 4, .int 4, .int (-1), .int 0, .ref b0, .ref b1, .ref b2, .ref b3, .ref b4, .int 0, .int 16, .int 4, .ref b5, .ref b6, .ref b7, .int (nI i)])), (b7, .inl (k5, 1820, .inl f41_1))] := hD
      refine lv_aload_n hx hb dX5_listHands_42 rfl (lv_at hl 2 rfl) ?_
      refine lv_dup hx hb dX5_listHands_43 rfl ?_
      refine va_get (D := D) (ci := 5) (v := .int (nI i)) (C := RX5) (T := TX5) (N := 16) hx hb hts inX5 hown hK hP 0 rfl rfl 15 (by decide) (hts _ kw_245) (fun _ h9 => h9) rfl dX5_listHands_44 ?_
      refine lv_iconst (v := 1) hx hb dX5_listHands_47 (by decide) ?_
      refine lv_iadd hx hb dX5_listHands_48 ?_
      refine z_i (v := (nI (i + 1))) (by exact nI_add _ 1) ?_
      refine va_put (D := D) (ci := 5) (v := .int (nI (i + 1))) (ty := .int) (C := RX5) (T := TX5) (N := 16) hx hb hts inX5 tyX5 tyX5_ok nmX5 hown hK hP hD hS 0 rfl rfl 15 (by decide) (hts _ kw_245) (fun _ h9 => h9) rfl (by decide +kernel) rfl rfl (Nat.le_of_ble_eq_true rfl) dX5_listHands_49 (fun H locs hP hD hS => ?_)
      have hP : va_P D vwCl [(h0, .inr (5, [.int 4, .int 4, .int (-1), .int 0, .ref b0, .ref b1, .ref b2, .ref b3, .ref b4, .int 0, .int 16, .int 4, .ref b5, .ref b6, .ref b7, .int (nI (i + 1))])), (b7, .inl (k5, 1820, .inl f41_1))] H := hP
      have hD : va_D A [(h0, .inr (5, [.int 4, .int 4, .int (-1), .int 0, .ref b0, .ref b1, .ref b2, .ref b3, .ref b4, .int 0, .int 16, .int 4, .ref b5, .ref b6, .ref b7, .int (nI (i + 1))])), (b7, .inl (k5, 1820, .inl f41_1))] := hD
      refine lv_iload_n hx hb dX5_listHands_52 rfl (lv_at hl 1 rfl) ?_
      refine lv_iload_n hx hb dX5_listHands_53 rfl (lv_at hl 1 rfl) ?_
      refine lv_ineg hx hb dX5_listHands_54 ?_
      refine lv_iand hx hb dX5_listHands_55 ?_
      refine lv_istore_n (lv' := [(3, .int (x &&& (-x))), (2, .int (nI i)), (1, .int x), (0, .ref h0)]) hx hb dX5_listHands_56 rfl hl (by decide) rfl (fun ls hl => ?_)
      refine lv_iload_n hx hb dX5_listHands_57 rfl (lv_at hl 2 rfl) ?_
      refine lv_iload_n hx hb dX5_listHands_58 rfl (lv_at hl 0 rfl) ?_
      refine lv_iadd hx hb dX5_listHands_59 ?_
      refine lv_istore (lv' := [(4, .int (x + (x &&& (-x)))), (3, .int (x &&& (-x))), (2, .int (nI i)), (1, .int x), (0, .ref h0)]) hx hb dX5_listHands_60 hl (by decide) rfl (fun ls hl => ?_)
      refine lv_iload hx hb dX5_listHands_62 (lv_at hl 0 rfl) ?_
      refine lv_iload_n hx hb dX5_listHands_64 rfl (lv_at hl 3 rfl) ?_
      refine lv_iload hx hb dX5_listHands_65 (lv_at hl 0 rfl) ?_
      refine lv_ixor hx hb dX5_listHands_67 ?_
      refine lv_iconst (v := 2) hx hb dX5_listHands_68 (by decide) ?_
      refine lv_iload_n hx hb dX5_listHands_69 rfl (lv_at hl 1 rfl) ?_
      refine re_S (As := [.int (x &&& (-x))]) (rest := [.int 2, .int (x ^^^ (x + (x &&& (-x)))), .int (x + (x &&& (-x)))]) caS_SignalTable_Laws_66 hx hb hml hown hts (show RdE l yJ6_numberOfTrailingZeros_0f7a4 cJ6_numberOfTrailingZeros_0f7a4 2 (some .int) 0 (fun _ => True) [.int (x &&& (-x))] (.int (nI j)) from by rw [hlo]; exact j_ntz j hj) bl_T (fun _ _ _ => trivial) (by decide) rfl hl.1 (Nat.le_of_ble_eq_true rfl) (by decide) dX5_listHands_70 rfl ?_
      refine lv_iadd hx hb dX5_listHands_73 ?_
      refine lv_iushr (v := (jush (x ^^^ (x + (x &&& (-x)))) (2 + (nI j)))) hx hb dX5_listHands_74 rfl ?_
      refine lv_ior hx hb dX5_listHands_75 ?_
      refine lv_istore_n (lv' := [(1, .int ((x + (x &&& (-x))) ||| (jush (x ^^^ (x + (x &&& (-x)))) (2 + (nI j))))), (4, .int (x + (x &&& (-x)))), (3, .int (x &&& (-x))), (2, .int (nI i)), (0, .ref h0)]) hx hb dX5_listHands_76 rfl hl (by decide) rfl (fun ls hl => ?_)
      refine lv_iinc (v := (nI (i + 1))) (lv' := [(2, .int (nI (i + 1))), (1, .int ((x + (x &&& (-x))) ||| (jush (x ^^^ (x + (x &&& (-x)))) (2 + (nI j))))), (4, .int (x + (x &&& (-x)))), (3, .int (x &&& (-x))), (0, .ref h0)]) hx hb dX5_listHands_77 hl (k := 3) rfl (by show (nI i) + 1 = _; exact nI_1 _) (by decide) rfl (fun ls hl => ?_)
      refine lv_goto (tgt := 16) hx hb dX5_listHands_80 (by decide) ?_
      exact ih (i + 1) _ _ _ _ _ (by omega) (by rw [ej]; exact hch) hP hD hS (lv_sub hl [0, 1, 4] rfl)
  exact loop 1820 0 15 f5 _ _ _ (by omega) lchk_all hP hD hS (lv_sub hl [0, 1, 2] rfl)
set_option maxHeartbeats 4000000 in
set_option maxRecDepth 100000 in
theorem wX5_settle {l : Launch} {D : va_G} {sz : Nat} (h0 : Nat) (b0 : Nat) (b1 : Nat) (b2 : Nat) (b3 : Nat) (b4 : Nat) (b5 : Nat) (b6 : Nat) (b7 : Nat) (c0 : Int32) (c1 : Int32) (c2 : Int32) (k3 : ClassId) (f3 : Nat → Int32) (k4 : ClassId) (f4 : Nat → Int32) (k5 : ClassId) (f5 : Nat → Int32) : Wv l yX5_settle cX5_settle 2 2 0 0 D [(h0, .inr (5, [.int 4, .int 4, .int (-1), .int 0, .ref b0, .ref b1, .ref b2, .ref b3, .ref b4, .int 0, .int c0, .int c1, .ref b5, .ref b6, .ref b7, .int c2])), (b5, .inl (k3, 4, .inl f3)), (b6, .inl (k4, 16, .inl f4)), (b7, .inl (k5, 1820, .inl f5))] [(k3, .int), (k4, .int), (k5, .int)] [.ref h0] sz (fun _ => True) (fun q k g gl => [(h0, .inr (5, [.int 4, .int 4, .int (-1), .int 0, .ref b0, .ref b1, .ref b2, .ref b3, .ref b4, .int 0, .int 16, .int 4, .ref b5, .ref b6, .ref b7, .int 1820])), (b5, .inl (k3, 4, .inl (g 3))), (b6, .inl (k4, 16, .inl (g 4))), (b7, .inl (k5, 1820, .inl (g 5)))]) (fun k => [(k3, .int), (k4, .int), (k5, .int)]) := by
  refine Wv.of (by decide) (Nat.le_of_ble_eq_true rfl) ?_
  intro p e s m below meth c ls A hx hb hr hml hown hts hlocks hin hP hK hD hA hS hE hAe hl
  have hown : s.vm.findClass "SignalTable$Laws" = some m.cls := hown
  have hin : meth.name = "settle" := hin
  skip
  have hl : lv_has ls 2 [(0, .ref h0)] := hl
  refine lv_aload_n hx hb dX5_settle_0 rfl (lv_at hl 0 rfl) ?_
  refine lv_aload_n hx hb dX5_settle_1 rfl (lv_at hl 0 rfl) ?_
  refine va_get (D := D) (ci := 5) (v := .int 4) (C := RX5) (T := TX5) (N := 16) hx hb hts inX5 hown hK hP 0 rfl rfl 0 (by decide) (hts _ kw_188) (fun _ h9 => h9) rfl dX5_settle_2 ?_
  refine lv_aload_n hx hb dX5_settle_5 rfl (lv_at hl 0 rfl) ?_
  refine va_get (D := D) (ci := 5) (v := .int 4) (C := RX5) (T := TX5) (N := 16) hx hb hts inX5 hown hK hP 0 rfl rfl 1 (by decide) (hts _ kw_192) (fun _ h9 => h9) rfl dX5_settle_6 ?_
  refine lv_imul hx hb dX5_settle_9 ?_
  refine z_i (v := 16) (by decide) ?_
  refine va_put (D := D) (ci := 5) (v := .int 16) (ty := .int) (C := RX5) (T := TX5) (N := 16) hx hb hts inX5 tyX5 tyX5_ok nmX5 hown hK hP hD hS 0 rfl rfl 10 (by decide) (hts _ kw_222) (fun _ h9 => h9) rfl (by decide +kernel) rfl rfl (Nat.le_of_ble_eq_true rfl) dX5_settle_10 (fun H locs hP hD hS => ?_)
  have hP : va_P D vwCl [(h0, .inr (5, [.int 4, .int 4, .int (-1), .int 0, .ref b0, .ref b1, .ref b2, .ref b3, .ref b4, .int 0, .int 16, .int c1, .ref b5, .ref b6, .ref b7, .int c2])), (b5, .inl (k3, 4, .inl f3)), (b6, .inl (k4, 16, .inl f4)), (b7, .inl (k5, 1820, .inl f5))] H := hP
  have hD : va_D A [(h0, .inr (5, [.int 4, .int 4, .int (-1), .int 0, .ref b0, .ref b1, .ref b2, .ref b3, .ref b4, .int 0, .int 16, .int c1, .ref b5, .ref b6, .ref b7, .int c2])), (b5, .inl (k3, 4, .inl f3)), (b6, .inl (k4, 16, .inl f4)), (b7, .inl (k5, 1820, .inl f5))] := hD
  refine lv_aload_n hx hb dX5_settle_13 rfl (lv_at hl 0 rfl) ?_
  refine lv_aload_n hx hb dX5_settle_14 rfl (lv_at hl 0 rfl) ?_
  refine va_get (D := D) (ci := 5) (v := .int 16) (C := RX5) (T := TX5) (N := 16) hx hb hts inX5 hown hK hP 0 rfl rfl 10 (by decide) (hts _ kw_222) (fun _ h9 => h9) rfl dX5_settle_15 ?_
  refine lv_iconst (v := 4) hx hb dX5_settle_18 (by decide) ?_
  refine lv_idiv hx hb dX5_settle_19 (by decide) ?_
  refine z_i (v := 4) (by decide) ?_
  refine va_put (D := D) (ci := 5) (v := .int 4) (ty := .int) (C := RX5) (T := TX5) (N := 16) hx hb hts inX5 tyX5 tyX5_ok nmX5 hown hK hP hD hS 0 rfl rfl 11 (by decide) (hts _ kw_229) (fun _ h9 => h9) rfl (by decide +kernel) rfl rfl (Nat.le_of_ble_eq_true rfl) dX5_settle_20 (fun H locs hP hD hS => ?_)
  have hP : va_P D vwCl [(h0, .inr (5, [.int 4, .int 4, .int (-1), .int 0, .ref b0, .ref b1, .ref b2, .ref b3, .ref b4, .int 0, .int 16, .int 4, .ref b5, .ref b6, .ref b7, .int c2])), (b5, .inl (k3, 4, .inl f3)), (b6, .inl (k4, 16, .inl f4)), (b7, .inl (k5, 1820, .inl f5))] H := hP
  have hD : va_D A [(h0, .inr (5, [.int 4, .int 4, .int (-1), .int 0, .ref b0, .ref b1, .ref b2, .ref b3, .ref b4, .int 0, .int 16, .int 4, .ref b5, .ref b6, .ref b7, .int c2])), (b5, .inl (k3, 4, .inl f3)), (b6, .inl (k4, 16, .inl f4)), (b7, .inl (k5, 1820, .inl f5))] := hD
  refine lv_aload_n hx hb dX5_settle_23 rfl (lv_at hl 0 rfl) ?_
  refine va_get (D := D) (ci := 5) (v := .int (-1)) (C := RX5) (T := TX5) (N := 16) hx hb hts inX5 hown hK hP 0 rfl rfl 2 (by decide) (hts _ kw_195) (fun _ h9 => h9) rfl dX5_settle_24 ?_
  refine lv_aload_n hx hb dX5_settle_27 rfl (lv_at hl 0 rfl) ?_
  refine va_get (D := D) (ci := 5) (v := .int 4) (C := RX5) (T := TX5) (N := 16) hx hb hts inX5 hown hK hP 0 rfl rfl 0 (by decide) (hts _ kw_188) (fun _ h9 => h9) rfl dX5_settle_28 ?_
  refine lv_icmp_lt (tgt := 39) hx hb dX5_settle_31 (by decide) (fun _ => ?_) (fun h => absurd (by decide) h)
  refine lv_iconst (v := 0) hx hb dX5_settle_39 (by decide) ?_
  refine lv_istore_n (lv' := [(1, .int 0), (0, .ref h0)]) hx hb dX5_settle_40 rfl hl (by decide) rfl (fun ls hl => ?_)
  refine lv_iload_n hx hb dX5_settle_41 rfl (lv_at hl 0 rfl) ?_
  refine lv_aload_n hx hb dX5_settle_42 rfl (lv_at hl 1 rfl) ?_
  refine va_get (D := D) (ci := 5) (v := .ref b5) (C := RX5) (T := TX5) (N := 16) hx hb hts inX5 hown hK hP 0 rfl rfl 12 (by decide) (hts _ kw_231) (fun _ h9 => h9) rfl dX5_settle_43 ?_
  refine va_alen (v := 4) hx hb hK hP 1 0 rfl rfl rfl dX5_settle_46 ?_
  refine lv_icmp_ge (tgt := 89) hx hb dX5_settle_47 (by decide) (fun h => absurd h (by decide)) (fun _ => ?_)
  refine lv_aload_n hx hb dX5_settle_50 rfl (lv_at hl 1 rfl) ?_
  refine va_get (D := D) (ci := 5) (v := .ref b5) (C := RX5) (T := TX5) (N := 16) hx hb hts inX5 hown hK hP 0 rfl rfl 12 (by decide) (hts _ kw_231) (fun _ h9 => h9) rfl dX5_settle_51 ?_
  refine lv_iload_n hx hb dX5_settle_54 rfl (lv_at hl 0 rfl) ?_
  refine lv_iload_n hx hb dX5_settle_55 rfl (lv_at hl 0 rfl) ?_
  refine lv_aload_n hx hb dX5_settle_56 rfl (lv_at hl 1 rfl) ?_
  refine va_get (D := D) (ci := 5) (v := .int 4) (C := RX5) (T := TX5) (N := 16) hx hb hts inX5 hown hK hP 0 rfl rfl 0 (by decide) (hts _ kw_188) (fun _ h9 => h9) rfl dX5_settle_57 ?_
  refine lv_icmp_ge (tgt := 81) hx hb dX5_settle_60 (by decide) (fun h => absurd h (by decide)) (fun _ => ?_)
  refine lv_iconst (v := 1) hx hb dX5_settle_63 (by decide) ?_
  refine lv_aload_n hx hb dX5_settle_64 rfl (lv_at hl 1 rfl) ?_
  refine va_get (D := D) (ci := 5) (v := .int 4) (C := RX5) (T := TX5) (N := 16) hx hb hts inX5 hown hK hP 0 rfl rfl 1 (by decide) (hts _ kw_192) (fun _ h9 => h9) rfl dX5_settle_65 ?_
  refine lv_ishl hx hb dX5_settle_68 ?_
  refine z_i (v := 16) (by decide) ?_
  refine lv_iconst (v := 1) hx hb dX5_settle_69 (by decide) ?_
  refine lv_isub hx hb dX5_settle_70 ?_
  refine z_i (v := 15) (by decide) ?_
  refine lv_iload_n hx hb dX5_settle_71 rfl (lv_at hl 0 rfl) ?_
  refine lv_aload_n hx hb dX5_settle_72 rfl (lv_at hl 1 rfl) ?_
  refine va_get (D := D) (ci := 5) (v := .int 4) (C := RX5) (T := TX5) (N := 16) hx hb hts inX5 hown hK hP 0 rfl rfl 1 (by decide) (hts _ kw_192) (fun _ h9 => h9) rfl dX5_settle_73 ?_
  refine lv_imul hx hb dX5_settle_76 ?_
  refine z_i (v := 0) (by decide) ?_
  refine lv_ishl hx hb dX5_settle_77 ?_
  refine z_i (v := 15) (by decide) ?_
  refine lv_goto (tgt := 82) hx hb dX5_settle_78 (by decide) ?_
  refine va_iast hx hb hK hP hD hS 1 0 rfl rfl (z_in (by decide)) dX5_settle_82 (fun H locs hP hD hS => ?_)
  obtain ⟨f82_1, hf82_1⟩ : ∃ z, z = upd f3 ((0 : Int32).toNatClampNeg) 15 := ⟨_, rfl⟩
  rw [← hf82_1] at hP hD
  have hP : va_P D vwCl [(h0, .inr (5, [.int 4, .int 4, .int (-1), .int 0, .ref b0, .ref b1, .ref b2, .ref b3, .ref b4, .int 0, .int 16, .int 4, .ref b5, .ref b6, .ref b7, .int c2])), (b5, .inl (k3, 4, .inl f82_1)), (b6, .inl (k4, 16, .inl f4)), (b7, .inl (k5, 1820, .inl f5))] H := hP
  have hD : va_D A [(h0, .inr (5, [.int 4, .int 4, .int (-1), .int 0, .ref b0, .ref b1, .ref b2, .ref b3, .ref b4, .int 0, .int 16, .int 4, .ref b5, .ref b6, .ref b7, .int c2])), (b5, .inl (k3, 4, .inl f82_1)), (b6, .inl (k4, 16, .inl f4)), (b7, .inl (k5, 1820, .inl f5))] := hD
  refine lv_iinc (v := 1) (lv' := [(1, .int 1), (0, .ref h0)]) hx hb dX5_settle_83 hl (k := 0) rfl (by decide) (by decide) rfl (fun ls hl => ?_)
  refine lv_goto (tgt := 41) hx hb dX5_settle_86 (by decide) ?_
  refine lv_iload_n hx hb dX5_settle_41 rfl (lv_at hl 0 rfl) ?_
  refine lv_aload_n hx hb dX5_settle_42 rfl (lv_at hl 1 rfl) ?_
  refine va_get (D := D) (ci := 5) (v := .ref b5) (C := RX5) (T := TX5) (N := 16) hx hb hts inX5 hown hK hP 0 rfl rfl 12 (by decide) (hts _ kw_231) (fun _ h9 => h9) rfl dX5_settle_43 ?_
  refine va_alen (v := 4) hx hb hK hP 1 0 rfl rfl rfl dX5_settle_46 ?_
  refine lv_icmp_ge (tgt := 89) hx hb dX5_settle_47 (by decide) (fun h => absurd h (by decide)) (fun _ => ?_)
  refine lv_aload_n hx hb dX5_settle_50 rfl (lv_at hl 1 rfl) ?_
  refine va_get (D := D) (ci := 5) (v := .ref b5) (C := RX5) (T := TX5) (N := 16) hx hb hts inX5 hown hK hP 0 rfl rfl 12 (by decide) (hts _ kw_231) (fun _ h9 => h9) rfl dX5_settle_51 ?_
  refine lv_iload_n hx hb dX5_settle_54 rfl (lv_at hl 0 rfl) ?_
  refine lv_iload_n hx hb dX5_settle_55 rfl (lv_at hl 0 rfl) ?_
  refine lv_aload_n hx hb dX5_settle_56 rfl (lv_at hl 1 rfl) ?_
  refine va_get (D := D) (ci := 5) (v := .int 4) (C := RX5) (T := TX5) (N := 16) hx hb hts inX5 hown hK hP 0 rfl rfl 0 (by decide) (hts _ kw_188) (fun _ h9 => h9) rfl dX5_settle_57 ?_
  refine lv_icmp_ge (tgt := 81) hx hb dX5_settle_60 (by decide) (fun h => absurd h (by decide)) (fun _ => ?_)
  refine lv_iconst (v := 1) hx hb dX5_settle_63 (by decide) ?_
  refine lv_aload_n hx hb dX5_settle_64 rfl (lv_at hl 1 rfl) ?_
  refine va_get (D := D) (ci := 5) (v := .int 4) (C := RX5) (T := TX5) (N := 16) hx hb hts inX5 hown hK hP 0 rfl rfl 1 (by decide) (hts _ kw_192) (fun _ h9 => h9) rfl dX5_settle_65 ?_
  refine lv_ishl hx hb dX5_settle_68 ?_
  refine z_i (v := 16) (by decide) ?_
  refine lv_iconst (v := 1) hx hb dX5_settle_69 (by decide) ?_
  refine lv_isub hx hb dX5_settle_70 ?_
  refine z_i (v := 15) (by decide) ?_
  refine lv_iload_n hx hb dX5_settle_71 rfl (lv_at hl 0 rfl) ?_
  refine lv_aload_n hx hb dX5_settle_72 rfl (lv_at hl 1 rfl) ?_
  refine va_get (D := D) (ci := 5) (v := .int 4) (C := RX5) (T := TX5) (N := 16) hx hb hts inX5 hown hK hP 0 rfl rfl 1 (by decide) (hts _ kw_192) (fun _ h9 => h9) rfl dX5_settle_73 ?_
  refine lv_imul hx hb dX5_settle_76 ?_
  refine z_i (v := 4) (by decide) ?_
  refine lv_ishl hx hb dX5_settle_77 ?_
  refine z_i (v := 240) (by decide) ?_
  refine lv_goto (tgt := 82) hx hb dX5_settle_78 (by decide) ?_
  refine va_iast hx hb hK hP hD hS 1 0 rfl rfl (z_in (by decide)) dX5_settle_82 (fun H locs hP hD hS => ?_)
  obtain ⟨f82_2, hf82_2⟩ : ∃ z, z = upd f82_1 ((1 : Int32).toNatClampNeg) 240 := ⟨_, rfl⟩
  rw [← hf82_2] at hP hD
  have hP : va_P D vwCl [(h0, .inr (5, [.int 4, .int 4, .int (-1), .int 0, .ref b0, .ref b1, .ref b2, .ref b3, .ref b4, .int 0, .int 16, .int 4, .ref b5, .ref b6, .ref b7, .int c2])), (b5, .inl (k3, 4, .inl f82_2)), (b6, .inl (k4, 16, .inl f4)), (b7, .inl (k5, 1820, .inl f5))] H := hP
  have hD : va_D A [(h0, .inr (5, [.int 4, .int 4, .int (-1), .int 0, .ref b0, .ref b1, .ref b2, .ref b3, .ref b4, .int 0, .int 16, .int 4, .ref b5, .ref b6, .ref b7, .int c2])), (b5, .inl (k3, 4, .inl f82_2)), (b6, .inl (k4, 16, .inl f4)), (b7, .inl (k5, 1820, .inl f5))] := hD
  refine lv_iinc (v := 2) (lv' := [(1, .int 2), (0, .ref h0)]) hx hb dX5_settle_83 hl (k := 0) rfl (by decide) (by decide) rfl (fun ls hl => ?_)
  refine lv_goto (tgt := 41) hx hb dX5_settle_86 (by decide) ?_
  refine lv_iload_n hx hb dX5_settle_41 rfl (lv_at hl 0 rfl) ?_
  refine lv_aload_n hx hb dX5_settle_42 rfl (lv_at hl 1 rfl) ?_
  refine va_get (D := D) (ci := 5) (v := .ref b5) (C := RX5) (T := TX5) (N := 16) hx hb hts inX5 hown hK hP 0 rfl rfl 12 (by decide) (hts _ kw_231) (fun _ h9 => h9) rfl dX5_settle_43 ?_
  refine va_alen (v := 4) hx hb hK hP 1 0 rfl rfl rfl dX5_settle_46 ?_
  refine lv_icmp_ge (tgt := 89) hx hb dX5_settle_47 (by decide) (fun h => absurd h (by decide)) (fun _ => ?_)
  refine lv_aload_n hx hb dX5_settle_50 rfl (lv_at hl 1 rfl) ?_
  refine va_get (D := D) (ci := 5) (v := .ref b5) (C := RX5) (T := TX5) (N := 16) hx hb hts inX5 hown hK hP 0 rfl rfl 12 (by decide) (hts _ kw_231) (fun _ h9 => h9) rfl dX5_settle_51 ?_
  refine lv_iload_n hx hb dX5_settle_54 rfl (lv_at hl 0 rfl) ?_
  refine lv_iload_n hx hb dX5_settle_55 rfl (lv_at hl 0 rfl) ?_
  refine lv_aload_n hx hb dX5_settle_56 rfl (lv_at hl 1 rfl) ?_
  refine va_get (D := D) (ci := 5) (v := .int 4) (C := RX5) (T := TX5) (N := 16) hx hb hts inX5 hown hK hP 0 rfl rfl 0 (by decide) (hts _ kw_188) (fun _ h9 => h9) rfl dX5_settle_57 ?_
  refine lv_icmp_ge (tgt := 81) hx hb dX5_settle_60 (by decide) (fun h => absurd h (by decide)) (fun _ => ?_)
  refine lv_iconst (v := 1) hx hb dX5_settle_63 (by decide) ?_
  refine lv_aload_n hx hb dX5_settle_64 rfl (lv_at hl 1 rfl) ?_
  refine va_get (D := D) (ci := 5) (v := .int 4) (C := RX5) (T := TX5) (N := 16) hx hb hts inX5 hown hK hP 0 rfl rfl 1 (by decide) (hts _ kw_192) (fun _ h9 => h9) rfl dX5_settle_65 ?_
  refine lv_ishl hx hb dX5_settle_68 ?_
  refine z_i (v := 16) (by decide) ?_
  refine lv_iconst (v := 1) hx hb dX5_settle_69 (by decide) ?_
  refine lv_isub hx hb dX5_settle_70 ?_
  refine z_i (v := 15) (by decide) ?_
  refine lv_iload_n hx hb dX5_settle_71 rfl (lv_at hl 0 rfl) ?_
  refine lv_aload_n hx hb dX5_settle_72 rfl (lv_at hl 1 rfl) ?_
  refine va_get (D := D) (ci := 5) (v := .int 4) (C := RX5) (T := TX5) (N := 16) hx hb hts inX5 hown hK hP 0 rfl rfl 1 (by decide) (hts _ kw_192) (fun _ h9 => h9) rfl dX5_settle_73 ?_
  refine lv_imul hx hb dX5_settle_76 ?_
  refine z_i (v := 8) (by decide) ?_
  refine lv_ishl hx hb dX5_settle_77 ?_
  refine z_i (v := 3840) (by decide) ?_
  refine lv_goto (tgt := 82) hx hb dX5_settle_78 (by decide) ?_
  refine va_iast hx hb hK hP hD hS 1 0 rfl rfl (z_in (by decide)) dX5_settle_82 (fun H locs hP hD hS => ?_)
  obtain ⟨f82_3, hf82_3⟩ : ∃ z, z = upd f82_2 ((2 : Int32).toNatClampNeg) 3840 := ⟨_, rfl⟩
  rw [← hf82_3] at hP hD
  have hP : va_P D vwCl [(h0, .inr (5, [.int 4, .int 4, .int (-1), .int 0, .ref b0, .ref b1, .ref b2, .ref b3, .ref b4, .int 0, .int 16, .int 4, .ref b5, .ref b6, .ref b7, .int c2])), (b5, .inl (k3, 4, .inl f82_3)), (b6, .inl (k4, 16, .inl f4)), (b7, .inl (k5, 1820, .inl f5))] H := hP
  have hD : va_D A [(h0, .inr (5, [.int 4, .int 4, .int (-1), .int 0, .ref b0, .ref b1, .ref b2, .ref b3, .ref b4, .int 0, .int 16, .int 4, .ref b5, .ref b6, .ref b7, .int c2])), (b5, .inl (k3, 4, .inl f82_3)), (b6, .inl (k4, 16, .inl f4)), (b7, .inl (k5, 1820, .inl f5))] := hD
  refine lv_iinc (v := 3) (lv' := [(1, .int 3), (0, .ref h0)]) hx hb dX5_settle_83 hl (k := 0) rfl (by decide) (by decide) rfl (fun ls hl => ?_)
  refine lv_goto (tgt := 41) hx hb dX5_settle_86 (by decide) ?_
  refine lv_iload_n hx hb dX5_settle_41 rfl (lv_at hl 0 rfl) ?_
  refine lv_aload_n hx hb dX5_settle_42 rfl (lv_at hl 1 rfl) ?_
  refine va_get (D := D) (ci := 5) (v := .ref b5) (C := RX5) (T := TX5) (N := 16) hx hb hts inX5 hown hK hP 0 rfl rfl 12 (by decide) (hts _ kw_231) (fun _ h9 => h9) rfl dX5_settle_43 ?_
  refine va_alen (v := 4) hx hb hK hP 1 0 rfl rfl rfl dX5_settle_46 ?_
  refine lv_icmp_ge (tgt := 89) hx hb dX5_settle_47 (by decide) (fun h => absurd h (by decide)) (fun _ => ?_)
  refine lv_aload_n hx hb dX5_settle_50 rfl (lv_at hl 1 rfl) ?_
  refine va_get (D := D) (ci := 5) (v := .ref b5) (C := RX5) (T := TX5) (N := 16) hx hb hts inX5 hown hK hP 0 rfl rfl 12 (by decide) (hts _ kw_231) (fun _ h9 => h9) rfl dX5_settle_51 ?_
  refine lv_iload_n hx hb dX5_settle_54 rfl (lv_at hl 0 rfl) ?_
  refine lv_iload_n hx hb dX5_settle_55 rfl (lv_at hl 0 rfl) ?_
  refine lv_aload_n hx hb dX5_settle_56 rfl (lv_at hl 1 rfl) ?_
  refine va_get (D := D) (ci := 5) (v := .int 4) (C := RX5) (T := TX5) (N := 16) hx hb hts inX5 hown hK hP 0 rfl rfl 0 (by decide) (hts _ kw_188) (fun _ h9 => h9) rfl dX5_settle_57 ?_
  refine lv_icmp_ge (tgt := 81) hx hb dX5_settle_60 (by decide) (fun h => absurd h (by decide)) (fun _ => ?_)
  refine lv_iconst (v := 1) hx hb dX5_settle_63 (by decide) ?_
  refine lv_aload_n hx hb dX5_settle_64 rfl (lv_at hl 1 rfl) ?_
  refine va_get (D := D) (ci := 5) (v := .int 4) (C := RX5) (T := TX5) (N := 16) hx hb hts inX5 hown hK hP 0 rfl rfl 1 (by decide) (hts _ kw_192) (fun _ h9 => h9) rfl dX5_settle_65 ?_
  refine lv_ishl hx hb dX5_settle_68 ?_
  refine z_i (v := 16) (by decide) ?_
  refine lv_iconst (v := 1) hx hb dX5_settle_69 (by decide) ?_
  refine lv_isub hx hb dX5_settle_70 ?_
  refine z_i (v := 15) (by decide) ?_
  refine lv_iload_n hx hb dX5_settle_71 rfl (lv_at hl 0 rfl) ?_
  refine lv_aload_n hx hb dX5_settle_72 rfl (lv_at hl 1 rfl) ?_
  refine va_get (D := D) (ci := 5) (v := .int 4) (C := RX5) (T := TX5) (N := 16) hx hb hts inX5 hown hK hP 0 rfl rfl 1 (by decide) (hts _ kw_192) (fun _ h9 => h9) rfl dX5_settle_73 ?_
  refine lv_imul hx hb dX5_settle_76 ?_
  refine z_i (v := 12) (by decide) ?_
  refine lv_ishl hx hb dX5_settle_77 ?_
  refine z_i (v := 61440) (by decide) ?_
  refine lv_goto (tgt := 82) hx hb dX5_settle_78 (by decide) ?_
  refine va_iast hx hb hK hP hD hS 1 0 rfl rfl (z_in (by decide)) dX5_settle_82 (fun H locs hP hD hS => ?_)
  obtain ⟨f82_4, hf82_4⟩ : ∃ z, z = upd f82_3 ((3 : Int32).toNatClampNeg) 61440 := ⟨_, rfl⟩
  rw [← hf82_4] at hP hD
  have hP : va_P D vwCl [(h0, .inr (5, [.int 4, .int 4, .int (-1), .int 0, .ref b0, .ref b1, .ref b2, .ref b3, .ref b4, .int 0, .int 16, .int 4, .ref b5, .ref b6, .ref b7, .int c2])), (b5, .inl (k3, 4, .inl f82_4)), (b6, .inl (k4, 16, .inl f4)), (b7, .inl (k5, 1820, .inl f5))] H := hP
  have hD : va_D A [(h0, .inr (5, [.int 4, .int 4, .int (-1), .int 0, .ref b0, .ref b1, .ref b2, .ref b3, .ref b4, .int 0, .int 16, .int 4, .ref b5, .ref b6, .ref b7, .int c2])), (b5, .inl (k3, 4, .inl f82_4)), (b6, .inl (k4, 16, .inl f4)), (b7, .inl (k5, 1820, .inl f5))] := hD
  refine lv_iinc (v := 4) (lv' := [(1, .int 4), (0, .ref h0)]) hx hb dX5_settle_83 hl (k := 0) rfl (by decide) (by decide) rfl (fun ls hl => ?_)
  refine lv_goto (tgt := 41) hx hb dX5_settle_86 (by decide) ?_
  refine lv_iload_n hx hb dX5_settle_41 rfl (lv_at hl 0 rfl) ?_
  refine lv_aload_n hx hb dX5_settle_42 rfl (lv_at hl 1 rfl) ?_
  refine va_get (D := D) (ci := 5) (v := .ref b5) (C := RX5) (T := TX5) (N := 16) hx hb hts inX5 hown hK hP 0 rfl rfl 12 (by decide) (hts _ kw_231) (fun _ h9 => h9) rfl dX5_settle_43 ?_
  refine va_alen (v := 4) hx hb hK hP 1 0 rfl rfl rfl dX5_settle_46 ?_
  refine lv_icmp_ge (tgt := 89) hx hb dX5_settle_47 (by decide) (fun _ => ?_) (fun h => absurd (by decide) h)
  refine lv_iconst (v := 0) hx hb dX5_settle_89 (by decide) ?_
  refine lv_istore_n (lv' := [(1, .int 0), (0, .ref h0)]) hx hb dX5_settle_90 rfl hl (by decide) rfl (fun ls hl => ?_)
  refine lv_iload_n hx hb dX5_settle_91 rfl (lv_at hl 0 rfl) ?_
  refine lv_aload_n hx hb dX5_settle_92 rfl (lv_at hl 1 rfl) ?_
  refine va_get (D := D) (ci := 5) (v := .ref b6) (C := RX5) (T := TX5) (N := 16) hx hb hts inX5 hown hK hP 0 rfl rfl 13 (by decide) (hts _ kw_236) (fun _ h9 => h9) rfl dX5_settle_93 ?_
  refine va_alen (v := 16) hx hb hK hP 2 1 rfl rfl rfl dX5_settle_96 ?_
  refine lv_icmp_ge (tgt := 137) hx hb dX5_settle_97 (by decide) (fun h => absurd h (by decide)) (fun _ => ?_)
  refine lv_aload_n hx hb dX5_settle_100 rfl (lv_at hl 1 rfl) ?_
  refine va_get (D := D) (ci := 5) (v := .ref b6) (C := RX5) (T := TX5) (N := 16) hx hb hts inX5 hown hK hP 0 rfl rfl 13 (by decide) (hts _ kw_236) (fun _ h9 => h9) rfl dX5_settle_101 ?_
  refine lv_iload_n hx hb dX5_settle_104 rfl (lv_at hl 0 rfl) ?_
  refine lv_iload_n hx hb dX5_settle_105 rfl (lv_at hl 0 rfl) ?_
  refine lv_aload_n hx hb dX5_settle_106 rfl (lv_at hl 1 rfl) ?_
  refine va_get (D := D) (ci := 5) (v := .int 16) (C := RX5) (T := TX5) (N := 16) hx hb hts inX5 hown hK hP 0 rfl rfl 10 (by decide) (hts _ kw_222) (fun _ h9 => h9) rfl dX5_settle_107 ?_
  refine lv_icmp_ge (tgt := 129) hx hb dX5_settle_110 (by decide) (fun h => absurd h (by decide)) (fun _ => ?_)
  refine lv_aload_n hx hb dX5_settle_113 rfl (lv_at hl 1 rfl) ?_
  refine va_get (D := D) (ci := 5) (v := .int 4) (C := RX5) (T := TX5) (N := 16) hx hb hts inX5 hown hK hP 0 rfl rfl 1 (by decide) (hts _ kw_192) (fun _ h9 => h9) rfl dX5_settle_114 ?_
  refine lv_if_le (tgt := 129) hx hb dX5_settle_117 (by decide) (fun h => absurd h (by decide)) (fun _ => ?_)
  refine lv_iload_n hx hb dX5_settle_120 rfl (lv_at hl 0 rfl) ?_
  refine lv_aload_n hx hb dX5_settle_121 rfl (lv_at hl 1 rfl) ?_
  refine va_get (D := D) (ci := 5) (v := .int 4) (C := RX5) (T := TX5) (N := 16) hx hb hts inX5 hown hK hP 0 rfl rfl 1 (by decide) (hts _ kw_192) (fun _ h9 => h9) rfl dX5_settle_122 ?_
  refine lv_idiv hx hb dX5_settle_125 (by decide) ?_
  refine z_i (v := 0) (by decide) ?_
  refine lv_goto (tgt := 130) hx hb dX5_settle_126 (by decide) ?_
  refine va_iast hx hb hK hP hD hS 2 1 rfl rfl (z_in (by decide)) dX5_settle_130 (fun H locs hP hD hS => ?_)
  obtain ⟨f130_5, hf130_5⟩ : ∃ z, z = upd f4 ((0 : Int32).toNatClampNeg) 0 := ⟨_, rfl⟩
  rw [← hf130_5] at hP hD
  have hP : va_P D vwCl [(h0, .inr (5, [.int 4, .int 4, .int (-1), .int 0, .ref b0, .ref b1, .ref b2, .ref b3, .ref b4, .int 0, .int 16, .int 4, .ref b5, .ref b6, .ref b7, .int c2])), (b5, .inl (k3, 4, .inl f82_4)), (b6, .inl (k4, 16, .inl f130_5)), (b7, .inl (k5, 1820, .inl f5))] H := hP
  have hD : va_D A [(h0, .inr (5, [.int 4, .int 4, .int (-1), .int 0, .ref b0, .ref b1, .ref b2, .ref b3, .ref b4, .int 0, .int 16, .int 4, .ref b5, .ref b6, .ref b7, .int c2])), (b5, .inl (k3, 4, .inl f82_4)), (b6, .inl (k4, 16, .inl f130_5)), (b7, .inl (k5, 1820, .inl f5))] := hD
  refine lv_iinc (v := 1) (lv' := [(1, .int 1), (0, .ref h0)]) hx hb dX5_settle_131 hl (k := 0) rfl (by decide) (by decide) rfl (fun ls hl => ?_)
  refine lv_goto (tgt := 91) hx hb dX5_settle_134 (by decide) ?_
  refine lv_iload_n hx hb dX5_settle_91 rfl (lv_at hl 0 rfl) ?_
  refine lv_aload_n hx hb dX5_settle_92 rfl (lv_at hl 1 rfl) ?_
  refine va_get (D := D) (ci := 5) (v := .ref b6) (C := RX5) (T := TX5) (N := 16) hx hb hts inX5 hown hK hP 0 rfl rfl 13 (by decide) (hts _ kw_236) (fun _ h9 => h9) rfl dX5_settle_93 ?_
  refine va_alen (v := 16) hx hb hK hP 2 1 rfl rfl rfl dX5_settle_96 ?_
  refine lv_icmp_ge (tgt := 137) hx hb dX5_settle_97 (by decide) (fun h => absurd h (by decide)) (fun _ => ?_)
  refine lv_aload_n hx hb dX5_settle_100 rfl (lv_at hl 1 rfl) ?_
  refine va_get (D := D) (ci := 5) (v := .ref b6) (C := RX5) (T := TX5) (N := 16) hx hb hts inX5 hown hK hP 0 rfl rfl 13 (by decide) (hts _ kw_236) (fun _ h9 => h9) rfl dX5_settle_101 ?_
  refine lv_iload_n hx hb dX5_settle_104 rfl (lv_at hl 0 rfl) ?_
  refine lv_iload_n hx hb dX5_settle_105 rfl (lv_at hl 0 rfl) ?_
  refine lv_aload_n hx hb dX5_settle_106 rfl (lv_at hl 1 rfl) ?_
  refine va_get (D := D) (ci := 5) (v := .int 16) (C := RX5) (T := TX5) (N := 16) hx hb hts inX5 hown hK hP 0 rfl rfl 10 (by decide) (hts _ kw_222) (fun _ h9 => h9) rfl dX5_settle_107 ?_
  refine lv_icmp_ge (tgt := 129) hx hb dX5_settle_110 (by decide) (fun h => absurd h (by decide)) (fun _ => ?_)
  refine lv_aload_n hx hb dX5_settle_113 rfl (lv_at hl 1 rfl) ?_
  refine va_get (D := D) (ci := 5) (v := .int 4) (C := RX5) (T := TX5) (N := 16) hx hb hts inX5 hown hK hP 0 rfl rfl 1 (by decide) (hts _ kw_192) (fun _ h9 => h9) rfl dX5_settle_114 ?_
  refine lv_if_le (tgt := 129) hx hb dX5_settle_117 (by decide) (fun h => absurd h (by decide)) (fun _ => ?_)
  refine lv_iload_n hx hb dX5_settle_120 rfl (lv_at hl 0 rfl) ?_
  refine lv_aload_n hx hb dX5_settle_121 rfl (lv_at hl 1 rfl) ?_
  refine va_get (D := D) (ci := 5) (v := .int 4) (C := RX5) (T := TX5) (N := 16) hx hb hts inX5 hown hK hP 0 rfl rfl 1 (by decide) (hts _ kw_192) (fun _ h9 => h9) rfl dX5_settle_122 ?_
  refine lv_idiv hx hb dX5_settle_125 (by decide) ?_
  refine z_i (v := 0) (by decide) ?_
  refine lv_goto (tgt := 130) hx hb dX5_settle_126 (by decide) ?_
  refine va_iast hx hb hK hP hD hS 2 1 rfl rfl (z_in (by decide)) dX5_settle_130 (fun H locs hP hD hS => ?_)
  obtain ⟨f130_6, hf130_6⟩ : ∃ z, z = upd f130_5 ((1 : Int32).toNatClampNeg) 0 := ⟨_, rfl⟩
  rw [← hf130_6] at hP hD
  have hP : va_P D vwCl [(h0, .inr (5, [.int 4, .int 4, .int (-1), .int 0, .ref b0, .ref b1, .ref b2, .ref b3, .ref b4, .int 0, .int 16, .int 4, .ref b5, .ref b6, .ref b7, .int c2])), (b5, .inl (k3, 4, .inl f82_4)), (b6, .inl (k4, 16, .inl f130_6)), (b7, .inl (k5, 1820, .inl f5))] H := hP
  have hD : va_D A [(h0, .inr (5, [.int 4, .int 4, .int (-1), .int 0, .ref b0, .ref b1, .ref b2, .ref b3, .ref b4, .int 0, .int 16, .int 4, .ref b5, .ref b6, .ref b7, .int c2])), (b5, .inl (k3, 4, .inl f82_4)), (b6, .inl (k4, 16, .inl f130_6)), (b7, .inl (k5, 1820, .inl f5))] := hD
  refine lv_iinc (v := 2) (lv' := [(1, .int 2), (0, .ref h0)]) hx hb dX5_settle_131 hl (k := 0) rfl (by decide) (by decide) rfl (fun ls hl => ?_)
  refine lv_goto (tgt := 91) hx hb dX5_settle_134 (by decide) ?_
  refine lv_iload_n hx hb dX5_settle_91 rfl (lv_at hl 0 rfl) ?_
  refine lv_aload_n hx hb dX5_settle_92 rfl (lv_at hl 1 rfl) ?_
  refine va_get (D := D) (ci := 5) (v := .ref b6) (C := RX5) (T := TX5) (N := 16) hx hb hts inX5 hown hK hP 0 rfl rfl 13 (by decide) (hts _ kw_236) (fun _ h9 => h9) rfl dX5_settle_93 ?_
  refine va_alen (v := 16) hx hb hK hP 2 1 rfl rfl rfl dX5_settle_96 ?_
  refine lv_icmp_ge (tgt := 137) hx hb dX5_settle_97 (by decide) (fun h => absurd h (by decide)) (fun _ => ?_)
  refine lv_aload_n hx hb dX5_settle_100 rfl (lv_at hl 1 rfl) ?_
  refine va_get (D := D) (ci := 5) (v := .ref b6) (C := RX5) (T := TX5) (N := 16) hx hb hts inX5 hown hK hP 0 rfl rfl 13 (by decide) (hts _ kw_236) (fun _ h9 => h9) rfl dX5_settle_101 ?_
  refine lv_iload_n hx hb dX5_settle_104 rfl (lv_at hl 0 rfl) ?_
  refine lv_iload_n hx hb dX5_settle_105 rfl (lv_at hl 0 rfl) ?_
  refine lv_aload_n hx hb dX5_settle_106 rfl (lv_at hl 1 rfl) ?_
  refine va_get (D := D) (ci := 5) (v := .int 16) (C := RX5) (T := TX5) (N := 16) hx hb hts inX5 hown hK hP 0 rfl rfl 10 (by decide) (hts _ kw_222) (fun _ h9 => h9) rfl dX5_settle_107 ?_
  refine lv_icmp_ge (tgt := 129) hx hb dX5_settle_110 (by decide) (fun h => absurd h (by decide)) (fun _ => ?_)
  refine lv_aload_n hx hb dX5_settle_113 rfl (lv_at hl 1 rfl) ?_
  refine va_get (D := D) (ci := 5) (v := .int 4) (C := RX5) (T := TX5) (N := 16) hx hb hts inX5 hown hK hP 0 rfl rfl 1 (by decide) (hts _ kw_192) (fun _ h9 => h9) rfl dX5_settle_114 ?_
  refine lv_if_le (tgt := 129) hx hb dX5_settle_117 (by decide) (fun h => absurd h (by decide)) (fun _ => ?_)
  refine lv_iload_n hx hb dX5_settle_120 rfl (lv_at hl 0 rfl) ?_
  refine lv_aload_n hx hb dX5_settle_121 rfl (lv_at hl 1 rfl) ?_
  refine va_get (D := D) (ci := 5) (v := .int 4) (C := RX5) (T := TX5) (N := 16) hx hb hts inX5 hown hK hP 0 rfl rfl 1 (by decide) (hts _ kw_192) (fun _ h9 => h9) rfl dX5_settle_122 ?_
  refine lv_idiv hx hb dX5_settle_125 (by decide) ?_
  refine z_i (v := 0) (by decide) ?_
  refine lv_goto (tgt := 130) hx hb dX5_settle_126 (by decide) ?_
  refine va_iast hx hb hK hP hD hS 2 1 rfl rfl (z_in (by decide)) dX5_settle_130 (fun H locs hP hD hS => ?_)
  obtain ⟨f130_7, hf130_7⟩ : ∃ z, z = upd f130_6 ((2 : Int32).toNatClampNeg) 0 := ⟨_, rfl⟩
  rw [← hf130_7] at hP hD
  have hP : va_P D vwCl [(h0, .inr (5, [.int 4, .int 4, .int (-1), .int 0, .ref b0, .ref b1, .ref b2, .ref b3, .ref b4, .int 0, .int 16, .int 4, .ref b5, .ref b6, .ref b7, .int c2])), (b5, .inl (k3, 4, .inl f82_4)), (b6, .inl (k4, 16, .inl f130_7)), (b7, .inl (k5, 1820, .inl f5))] H := hP
  have hD : va_D A [(h0, .inr (5, [.int 4, .int 4, .int (-1), .int 0, .ref b0, .ref b1, .ref b2, .ref b3, .ref b4, .int 0, .int 16, .int 4, .ref b5, .ref b6, .ref b7, .int c2])), (b5, .inl (k3, 4, .inl f82_4)), (b6, .inl (k4, 16, .inl f130_7)), (b7, .inl (k5, 1820, .inl f5))] := hD
  refine lv_iinc (v := 3) (lv' := [(1, .int 3), (0, .ref h0)]) hx hb dX5_settle_131 hl (k := 0) rfl (by decide) (by decide) rfl (fun ls hl => ?_)
  refine lv_goto (tgt := 91) hx hb dX5_settle_134 (by decide) ?_
  refine lv_iload_n hx hb dX5_settle_91 rfl (lv_at hl 0 rfl) ?_
  refine lv_aload_n hx hb dX5_settle_92 rfl (lv_at hl 1 rfl) ?_
  refine va_get (D := D) (ci := 5) (v := .ref b6) (C := RX5) (T := TX5) (N := 16) hx hb hts inX5 hown hK hP 0 rfl rfl 13 (by decide) (hts _ kw_236) (fun _ h9 => h9) rfl dX5_settle_93 ?_
  refine va_alen (v := 16) hx hb hK hP 2 1 rfl rfl rfl dX5_settle_96 ?_
  refine lv_icmp_ge (tgt := 137) hx hb dX5_settle_97 (by decide) (fun h => absurd h (by decide)) (fun _ => ?_)
  refine lv_aload_n hx hb dX5_settle_100 rfl (lv_at hl 1 rfl) ?_
  refine va_get (D := D) (ci := 5) (v := .ref b6) (C := RX5) (T := TX5) (N := 16) hx hb hts inX5 hown hK hP 0 rfl rfl 13 (by decide) (hts _ kw_236) (fun _ h9 => h9) rfl dX5_settle_101 ?_
  refine lv_iload_n hx hb dX5_settle_104 rfl (lv_at hl 0 rfl) ?_
  refine lv_iload_n hx hb dX5_settle_105 rfl (lv_at hl 0 rfl) ?_
  refine lv_aload_n hx hb dX5_settle_106 rfl (lv_at hl 1 rfl) ?_
  refine va_get (D := D) (ci := 5) (v := .int 16) (C := RX5) (T := TX5) (N := 16) hx hb hts inX5 hown hK hP 0 rfl rfl 10 (by decide) (hts _ kw_222) (fun _ h9 => h9) rfl dX5_settle_107 ?_
  refine lv_icmp_ge (tgt := 129) hx hb dX5_settle_110 (by decide) (fun h => absurd h (by decide)) (fun _ => ?_)
  refine lv_aload_n hx hb dX5_settle_113 rfl (lv_at hl 1 rfl) ?_
  refine va_get (D := D) (ci := 5) (v := .int 4) (C := RX5) (T := TX5) (N := 16) hx hb hts inX5 hown hK hP 0 rfl rfl 1 (by decide) (hts _ kw_192) (fun _ h9 => h9) rfl dX5_settle_114 ?_
  refine lv_if_le (tgt := 129) hx hb dX5_settle_117 (by decide) (fun h => absurd h (by decide)) (fun _ => ?_)
  refine lv_iload_n hx hb dX5_settle_120 rfl (lv_at hl 0 rfl) ?_
  refine lv_aload_n hx hb dX5_settle_121 rfl (lv_at hl 1 rfl) ?_
  refine va_get (D := D) (ci := 5) (v := .int 4) (C := RX5) (T := TX5) (N := 16) hx hb hts inX5 hown hK hP 0 rfl rfl 1 (by decide) (hts _ kw_192) (fun _ h9 => h9) rfl dX5_settle_122 ?_
  refine lv_idiv hx hb dX5_settle_125 (by decide) ?_
  refine z_i (v := 0) (by decide) ?_
  refine lv_goto (tgt := 130) hx hb dX5_settle_126 (by decide) ?_
  refine va_iast hx hb hK hP hD hS 2 1 rfl rfl (z_in (by decide)) dX5_settle_130 (fun H locs hP hD hS => ?_)
  obtain ⟨f130_8, hf130_8⟩ : ∃ z, z = upd f130_7 ((3 : Int32).toNatClampNeg) 0 := ⟨_, rfl⟩
  rw [← hf130_8] at hP hD
  have hP : va_P D vwCl [(h0, .inr (5, [.int 4, .int 4, .int (-1), .int 0, .ref b0, .ref b1, .ref b2, .ref b3, .ref b4, .int 0, .int 16, .int 4, .ref b5, .ref b6, .ref b7, .int c2])), (b5, .inl (k3, 4, .inl f82_4)), (b6, .inl (k4, 16, .inl f130_8)), (b7, .inl (k5, 1820, .inl f5))] H := hP
  have hD : va_D A [(h0, .inr (5, [.int 4, .int 4, .int (-1), .int 0, .ref b0, .ref b1, .ref b2, .ref b3, .ref b4, .int 0, .int 16, .int 4, .ref b5, .ref b6, .ref b7, .int c2])), (b5, .inl (k3, 4, .inl f82_4)), (b6, .inl (k4, 16, .inl f130_8)), (b7, .inl (k5, 1820, .inl f5))] := hD
  refine lv_iinc (v := 4) (lv' := [(1, .int 4), (0, .ref h0)]) hx hb dX5_settle_131 hl (k := 0) rfl (by decide) (by decide) rfl (fun ls hl => ?_)
  refine lv_goto (tgt := 91) hx hb dX5_settle_134 (by decide) ?_
  refine lv_iload_n hx hb dX5_settle_91 rfl (lv_at hl 0 rfl) ?_
  refine lv_aload_n hx hb dX5_settle_92 rfl (lv_at hl 1 rfl) ?_
  refine va_get (D := D) (ci := 5) (v := .ref b6) (C := RX5) (T := TX5) (N := 16) hx hb hts inX5 hown hK hP 0 rfl rfl 13 (by decide) (hts _ kw_236) (fun _ h9 => h9) rfl dX5_settle_93 ?_
  refine va_alen (v := 16) hx hb hK hP 2 1 rfl rfl rfl dX5_settle_96 ?_
  refine lv_icmp_ge (tgt := 137) hx hb dX5_settle_97 (by decide) (fun h => absurd h (by decide)) (fun _ => ?_)
  refine lv_aload_n hx hb dX5_settle_100 rfl (lv_at hl 1 rfl) ?_
  refine va_get (D := D) (ci := 5) (v := .ref b6) (C := RX5) (T := TX5) (N := 16) hx hb hts inX5 hown hK hP 0 rfl rfl 13 (by decide) (hts _ kw_236) (fun _ h9 => h9) rfl dX5_settle_101 ?_
  refine lv_iload_n hx hb dX5_settle_104 rfl (lv_at hl 0 rfl) ?_
  refine lv_iload_n hx hb dX5_settle_105 rfl (lv_at hl 0 rfl) ?_
  refine lv_aload_n hx hb dX5_settle_106 rfl (lv_at hl 1 rfl) ?_
  refine va_get (D := D) (ci := 5) (v := .int 16) (C := RX5) (T := TX5) (N := 16) hx hb hts inX5 hown hK hP 0 rfl rfl 10 (by decide) (hts _ kw_222) (fun _ h9 => h9) rfl dX5_settle_107 ?_
  refine lv_icmp_ge (tgt := 129) hx hb dX5_settle_110 (by decide) (fun h => absurd h (by decide)) (fun _ => ?_)
  refine lv_aload_n hx hb dX5_settle_113 rfl (lv_at hl 1 rfl) ?_
  refine va_get (D := D) (ci := 5) (v := .int 4) (C := RX5) (T := TX5) (N := 16) hx hb hts inX5 hown hK hP 0 rfl rfl 1 (by decide) (hts _ kw_192) (fun _ h9 => h9) rfl dX5_settle_114 ?_
  refine lv_if_le (tgt := 129) hx hb dX5_settle_117 (by decide) (fun h => absurd h (by decide)) (fun _ => ?_)
  refine lv_iload_n hx hb dX5_settle_120 rfl (lv_at hl 0 rfl) ?_
  refine lv_aload_n hx hb dX5_settle_121 rfl (lv_at hl 1 rfl) ?_
  refine va_get (D := D) (ci := 5) (v := .int 4) (C := RX5) (T := TX5) (N := 16) hx hb hts inX5 hown hK hP 0 rfl rfl 1 (by decide) (hts _ kw_192) (fun _ h9 => h9) rfl dX5_settle_122 ?_
  refine lv_idiv hx hb dX5_settle_125 (by decide) ?_
  refine z_i (v := 1) (by decide) ?_
  refine lv_goto (tgt := 130) hx hb dX5_settle_126 (by decide) ?_
  refine va_iast hx hb hK hP hD hS 2 1 rfl rfl (z_in (by decide)) dX5_settle_130 (fun H locs hP hD hS => ?_)
  obtain ⟨f130_9, hf130_9⟩ : ∃ z, z = upd f130_8 ((4 : Int32).toNatClampNeg) 1 := ⟨_, rfl⟩
  rw [← hf130_9] at hP hD
  have hP : va_P D vwCl [(h0, .inr (5, [.int 4, .int 4, .int (-1), .int 0, .ref b0, .ref b1, .ref b2, .ref b3, .ref b4, .int 0, .int 16, .int 4, .ref b5, .ref b6, .ref b7, .int c2])), (b5, .inl (k3, 4, .inl f82_4)), (b6, .inl (k4, 16, .inl f130_9)), (b7, .inl (k5, 1820, .inl f5))] H := hP
  have hD : va_D A [(h0, .inr (5, [.int 4, .int 4, .int (-1), .int 0, .ref b0, .ref b1, .ref b2, .ref b3, .ref b4, .int 0, .int 16, .int 4, .ref b5, .ref b6, .ref b7, .int c2])), (b5, .inl (k3, 4, .inl f82_4)), (b6, .inl (k4, 16, .inl f130_9)), (b7, .inl (k5, 1820, .inl f5))] := hD
  refine lv_iinc (v := 5) (lv' := [(1, .int 5), (0, .ref h0)]) hx hb dX5_settle_131 hl (k := 0) rfl (by decide) (by decide) rfl (fun ls hl => ?_)
  refine lv_goto (tgt := 91) hx hb dX5_settle_134 (by decide) ?_
  refine lv_iload_n hx hb dX5_settle_91 rfl (lv_at hl 0 rfl) ?_
  refine lv_aload_n hx hb dX5_settle_92 rfl (lv_at hl 1 rfl) ?_
  refine va_get (D := D) (ci := 5) (v := .ref b6) (C := RX5) (T := TX5) (N := 16) hx hb hts inX5 hown hK hP 0 rfl rfl 13 (by decide) (hts _ kw_236) (fun _ h9 => h9) rfl dX5_settle_93 ?_
  refine va_alen (v := 16) hx hb hK hP 2 1 rfl rfl rfl dX5_settle_96 ?_
  refine lv_icmp_ge (tgt := 137) hx hb dX5_settle_97 (by decide) (fun h => absurd h (by decide)) (fun _ => ?_)
  refine lv_aload_n hx hb dX5_settle_100 rfl (lv_at hl 1 rfl) ?_
  refine va_get (D := D) (ci := 5) (v := .ref b6) (C := RX5) (T := TX5) (N := 16) hx hb hts inX5 hown hK hP 0 rfl rfl 13 (by decide) (hts _ kw_236) (fun _ h9 => h9) rfl dX5_settle_101 ?_
  refine lv_iload_n hx hb dX5_settle_104 rfl (lv_at hl 0 rfl) ?_
  refine lv_iload_n hx hb dX5_settle_105 rfl (lv_at hl 0 rfl) ?_
  refine lv_aload_n hx hb dX5_settle_106 rfl (lv_at hl 1 rfl) ?_
  refine va_get (D := D) (ci := 5) (v := .int 16) (C := RX5) (T := TX5) (N := 16) hx hb hts inX5 hown hK hP 0 rfl rfl 10 (by decide) (hts _ kw_222) (fun _ h9 => h9) rfl dX5_settle_107 ?_
  refine lv_icmp_ge (tgt := 129) hx hb dX5_settle_110 (by decide) (fun h => absurd h (by decide)) (fun _ => ?_)
  refine lv_aload_n hx hb dX5_settle_113 rfl (lv_at hl 1 rfl) ?_
  refine va_get (D := D) (ci := 5) (v := .int 4) (C := RX5) (T := TX5) (N := 16) hx hb hts inX5 hown hK hP 0 rfl rfl 1 (by decide) (hts _ kw_192) (fun _ h9 => h9) rfl dX5_settle_114 ?_
  refine lv_if_le (tgt := 129) hx hb dX5_settle_117 (by decide) (fun h => absurd h (by decide)) (fun _ => ?_)
  refine lv_iload_n hx hb dX5_settle_120 rfl (lv_at hl 0 rfl) ?_
  refine lv_aload_n hx hb dX5_settle_121 rfl (lv_at hl 1 rfl) ?_
  refine va_get (D := D) (ci := 5) (v := .int 4) (C := RX5) (T := TX5) (N := 16) hx hb hts inX5 hown hK hP 0 rfl rfl 1 (by decide) (hts _ kw_192) (fun _ h9 => h9) rfl dX5_settle_122 ?_
  refine lv_idiv hx hb dX5_settle_125 (by decide) ?_
  refine z_i (v := 1) (by decide) ?_
  refine lv_goto (tgt := 130) hx hb dX5_settle_126 (by decide) ?_
  refine va_iast hx hb hK hP hD hS 2 1 rfl rfl (z_in (by decide)) dX5_settle_130 (fun H locs hP hD hS => ?_)
  obtain ⟨f130_10, hf130_10⟩ : ∃ z, z = upd f130_9 ((5 : Int32).toNatClampNeg) 1 := ⟨_, rfl⟩
  rw [← hf130_10] at hP hD
  have hP : va_P D vwCl [(h0, .inr (5, [.int 4, .int 4, .int (-1), .int 0, .ref b0, .ref b1, .ref b2, .ref b3, .ref b4, .int 0, .int 16, .int 4, .ref b5, .ref b6, .ref b7, .int c2])), (b5, .inl (k3, 4, .inl f82_4)), (b6, .inl (k4, 16, .inl f130_10)), (b7, .inl (k5, 1820, .inl f5))] H := hP
  have hD : va_D A [(h0, .inr (5, [.int 4, .int 4, .int (-1), .int 0, .ref b0, .ref b1, .ref b2, .ref b3, .ref b4, .int 0, .int 16, .int 4, .ref b5, .ref b6, .ref b7, .int c2])), (b5, .inl (k3, 4, .inl f82_4)), (b6, .inl (k4, 16, .inl f130_10)), (b7, .inl (k5, 1820, .inl f5))] := hD
  refine lv_iinc (v := 6) (lv' := [(1, .int 6), (0, .ref h0)]) hx hb dX5_settle_131 hl (k := 0) rfl (by decide) (by decide) rfl (fun ls hl => ?_)
  refine lv_goto (tgt := 91) hx hb dX5_settle_134 (by decide) ?_
  refine lv_iload_n hx hb dX5_settle_91 rfl (lv_at hl 0 rfl) ?_
  refine lv_aload_n hx hb dX5_settle_92 rfl (lv_at hl 1 rfl) ?_
  refine va_get (D := D) (ci := 5) (v := .ref b6) (C := RX5) (T := TX5) (N := 16) hx hb hts inX5 hown hK hP 0 rfl rfl 13 (by decide) (hts _ kw_236) (fun _ h9 => h9) rfl dX5_settle_93 ?_
  refine va_alen (v := 16) hx hb hK hP 2 1 rfl rfl rfl dX5_settle_96 ?_
  refine lv_icmp_ge (tgt := 137) hx hb dX5_settle_97 (by decide) (fun h => absurd h (by decide)) (fun _ => ?_)
  refine lv_aload_n hx hb dX5_settle_100 rfl (lv_at hl 1 rfl) ?_
  refine va_get (D := D) (ci := 5) (v := .ref b6) (C := RX5) (T := TX5) (N := 16) hx hb hts inX5 hown hK hP 0 rfl rfl 13 (by decide) (hts _ kw_236) (fun _ h9 => h9) rfl dX5_settle_101 ?_
  refine lv_iload_n hx hb dX5_settle_104 rfl (lv_at hl 0 rfl) ?_
  refine lv_iload_n hx hb dX5_settle_105 rfl (lv_at hl 0 rfl) ?_
  refine lv_aload_n hx hb dX5_settle_106 rfl (lv_at hl 1 rfl) ?_
  refine va_get (D := D) (ci := 5) (v := .int 16) (C := RX5) (T := TX5) (N := 16) hx hb hts inX5 hown hK hP 0 rfl rfl 10 (by decide) (hts _ kw_222) (fun _ h9 => h9) rfl dX5_settle_107 ?_
  refine lv_icmp_ge (tgt := 129) hx hb dX5_settle_110 (by decide) (fun h => absurd h (by decide)) (fun _ => ?_)
  refine lv_aload_n hx hb dX5_settle_113 rfl (lv_at hl 1 rfl) ?_
  refine va_get (D := D) (ci := 5) (v := .int 4) (C := RX5) (T := TX5) (N := 16) hx hb hts inX5 hown hK hP 0 rfl rfl 1 (by decide) (hts _ kw_192) (fun _ h9 => h9) rfl dX5_settle_114 ?_
  refine lv_if_le (tgt := 129) hx hb dX5_settle_117 (by decide) (fun h => absurd h (by decide)) (fun _ => ?_)
  refine lv_iload_n hx hb dX5_settle_120 rfl (lv_at hl 0 rfl) ?_
  refine lv_aload_n hx hb dX5_settle_121 rfl (lv_at hl 1 rfl) ?_
  refine va_get (D := D) (ci := 5) (v := .int 4) (C := RX5) (T := TX5) (N := 16) hx hb hts inX5 hown hK hP 0 rfl rfl 1 (by decide) (hts _ kw_192) (fun _ h9 => h9) rfl dX5_settle_122 ?_
  refine lv_idiv hx hb dX5_settle_125 (by decide) ?_
  refine z_i (v := 1) (by decide) ?_
  refine lv_goto (tgt := 130) hx hb dX5_settle_126 (by decide) ?_
  refine va_iast hx hb hK hP hD hS 2 1 rfl rfl (z_in (by decide)) dX5_settle_130 (fun H locs hP hD hS => ?_)
  obtain ⟨f130_11, hf130_11⟩ : ∃ z, z = upd f130_10 ((6 : Int32).toNatClampNeg) 1 := ⟨_, rfl⟩
  rw [← hf130_11] at hP hD
  have hP : va_P D vwCl [(h0, .inr (5, [.int 4, .int 4, .int (-1), .int 0, .ref b0, .ref b1, .ref b2, .ref b3, .ref b4, .int 0, .int 16, .int 4, .ref b5, .ref b6, .ref b7, .int c2])), (b5, .inl (k3, 4, .inl f82_4)), (b6, .inl (k4, 16, .inl f130_11)), (b7, .inl (k5, 1820, .inl f5))] H := hP
  have hD : va_D A [(h0, .inr (5, [.int 4, .int 4, .int (-1), .int 0, .ref b0, .ref b1, .ref b2, .ref b3, .ref b4, .int 0, .int 16, .int 4, .ref b5, .ref b6, .ref b7, .int c2])), (b5, .inl (k3, 4, .inl f82_4)), (b6, .inl (k4, 16, .inl f130_11)), (b7, .inl (k5, 1820, .inl f5))] := hD
  refine lv_iinc (v := 7) (lv' := [(1, .int 7), (0, .ref h0)]) hx hb dX5_settle_131 hl (k := 0) rfl (by decide) (by decide) rfl (fun ls hl => ?_)
  refine lv_goto (tgt := 91) hx hb dX5_settle_134 (by decide) ?_
  refine lv_iload_n hx hb dX5_settle_91 rfl (lv_at hl 0 rfl) ?_
  refine lv_aload_n hx hb dX5_settle_92 rfl (lv_at hl 1 rfl) ?_
  refine va_get (D := D) (ci := 5) (v := .ref b6) (C := RX5) (T := TX5) (N := 16) hx hb hts inX5 hown hK hP 0 rfl rfl 13 (by decide) (hts _ kw_236) (fun _ h9 => h9) rfl dX5_settle_93 ?_
  refine va_alen (v := 16) hx hb hK hP 2 1 rfl rfl rfl dX5_settle_96 ?_
  refine lv_icmp_ge (tgt := 137) hx hb dX5_settle_97 (by decide) (fun h => absurd h (by decide)) (fun _ => ?_)
  refine lv_aload_n hx hb dX5_settle_100 rfl (lv_at hl 1 rfl) ?_
  refine va_get (D := D) (ci := 5) (v := .ref b6) (C := RX5) (T := TX5) (N := 16) hx hb hts inX5 hown hK hP 0 rfl rfl 13 (by decide) (hts _ kw_236) (fun _ h9 => h9) rfl dX5_settle_101 ?_
  refine lv_iload_n hx hb dX5_settle_104 rfl (lv_at hl 0 rfl) ?_
  refine lv_iload_n hx hb dX5_settle_105 rfl (lv_at hl 0 rfl) ?_
  refine lv_aload_n hx hb dX5_settle_106 rfl (lv_at hl 1 rfl) ?_
  refine va_get (D := D) (ci := 5) (v := .int 16) (C := RX5) (T := TX5) (N := 16) hx hb hts inX5 hown hK hP 0 rfl rfl 10 (by decide) (hts _ kw_222) (fun _ h9 => h9) rfl dX5_settle_107 ?_
  refine lv_icmp_ge (tgt := 129) hx hb dX5_settle_110 (by decide) (fun h => absurd h (by decide)) (fun _ => ?_)
  refine lv_aload_n hx hb dX5_settle_113 rfl (lv_at hl 1 rfl) ?_
  refine va_get (D := D) (ci := 5) (v := .int 4) (C := RX5) (T := TX5) (N := 16) hx hb hts inX5 hown hK hP 0 rfl rfl 1 (by decide) (hts _ kw_192) (fun _ h9 => h9) rfl dX5_settle_114 ?_
  refine lv_if_le (tgt := 129) hx hb dX5_settle_117 (by decide) (fun h => absurd h (by decide)) (fun _ => ?_)
  refine lv_iload_n hx hb dX5_settle_120 rfl (lv_at hl 0 rfl) ?_
  refine lv_aload_n hx hb dX5_settle_121 rfl (lv_at hl 1 rfl) ?_
  refine va_get (D := D) (ci := 5) (v := .int 4) (C := RX5) (T := TX5) (N := 16) hx hb hts inX5 hown hK hP 0 rfl rfl 1 (by decide) (hts _ kw_192) (fun _ h9 => h9) rfl dX5_settle_122 ?_
  refine lv_idiv hx hb dX5_settle_125 (by decide) ?_
  refine z_i (v := 1) (by decide) ?_
  refine lv_goto (tgt := 130) hx hb dX5_settle_126 (by decide) ?_
  refine va_iast hx hb hK hP hD hS 2 1 rfl rfl (z_in (by decide)) dX5_settle_130 (fun H locs hP hD hS => ?_)
  obtain ⟨f130_12, hf130_12⟩ : ∃ z, z = upd f130_11 ((7 : Int32).toNatClampNeg) 1 := ⟨_, rfl⟩
  rw [← hf130_12] at hP hD
  have hP : va_P D vwCl [(h0, .inr (5, [.int 4, .int 4, .int (-1), .int 0, .ref b0, .ref b1, .ref b2, .ref b3, .ref b4, .int 0, .int 16, .int 4, .ref b5, .ref b6, .ref b7, .int c2])), (b5, .inl (k3, 4, .inl f82_4)), (b6, .inl (k4, 16, .inl f130_12)), (b7, .inl (k5, 1820, .inl f5))] H := hP
  have hD : va_D A [(h0, .inr (5, [.int 4, .int 4, .int (-1), .int 0, .ref b0, .ref b1, .ref b2, .ref b3, .ref b4, .int 0, .int 16, .int 4, .ref b5, .ref b6, .ref b7, .int c2])), (b5, .inl (k3, 4, .inl f82_4)), (b6, .inl (k4, 16, .inl f130_12)), (b7, .inl (k5, 1820, .inl f5))] := hD
  refine lv_iinc (v := 8) (lv' := [(1, .int 8), (0, .ref h0)]) hx hb dX5_settle_131 hl (k := 0) rfl (by decide) (by decide) rfl (fun ls hl => ?_)
  refine lv_goto (tgt := 91) hx hb dX5_settle_134 (by decide) ?_
  refine lv_iload_n hx hb dX5_settle_91 rfl (lv_at hl 0 rfl) ?_
  refine lv_aload_n hx hb dX5_settle_92 rfl (lv_at hl 1 rfl) ?_
  refine va_get (D := D) (ci := 5) (v := .ref b6) (C := RX5) (T := TX5) (N := 16) hx hb hts inX5 hown hK hP 0 rfl rfl 13 (by decide) (hts _ kw_236) (fun _ h9 => h9) rfl dX5_settle_93 ?_
  refine va_alen (v := 16) hx hb hK hP 2 1 rfl rfl rfl dX5_settle_96 ?_
  refine lv_icmp_ge (tgt := 137) hx hb dX5_settle_97 (by decide) (fun h => absurd h (by decide)) (fun _ => ?_)
  refine lv_aload_n hx hb dX5_settle_100 rfl (lv_at hl 1 rfl) ?_
  refine va_get (D := D) (ci := 5) (v := .ref b6) (C := RX5) (T := TX5) (N := 16) hx hb hts inX5 hown hK hP 0 rfl rfl 13 (by decide) (hts _ kw_236) (fun _ h9 => h9) rfl dX5_settle_101 ?_
  refine lv_iload_n hx hb dX5_settle_104 rfl (lv_at hl 0 rfl) ?_
  refine lv_iload_n hx hb dX5_settle_105 rfl (lv_at hl 0 rfl) ?_
  refine lv_aload_n hx hb dX5_settle_106 rfl (lv_at hl 1 rfl) ?_
  refine va_get (D := D) (ci := 5) (v := .int 16) (C := RX5) (T := TX5) (N := 16) hx hb hts inX5 hown hK hP 0 rfl rfl 10 (by decide) (hts _ kw_222) (fun _ h9 => h9) rfl dX5_settle_107 ?_
  refine lv_icmp_ge (tgt := 129) hx hb dX5_settle_110 (by decide) (fun h => absurd h (by decide)) (fun _ => ?_)
  refine lv_aload_n hx hb dX5_settle_113 rfl (lv_at hl 1 rfl) ?_
  refine va_get (D := D) (ci := 5) (v := .int 4) (C := RX5) (T := TX5) (N := 16) hx hb hts inX5 hown hK hP 0 rfl rfl 1 (by decide) (hts _ kw_192) (fun _ h9 => h9) rfl dX5_settle_114 ?_
  refine lv_if_le (tgt := 129) hx hb dX5_settle_117 (by decide) (fun h => absurd h (by decide)) (fun _ => ?_)
  refine lv_iload_n hx hb dX5_settle_120 rfl (lv_at hl 0 rfl) ?_
  refine lv_aload_n hx hb dX5_settle_121 rfl (lv_at hl 1 rfl) ?_
  refine va_get (D := D) (ci := 5) (v := .int 4) (C := RX5) (T := TX5) (N := 16) hx hb hts inX5 hown hK hP 0 rfl rfl 1 (by decide) (hts _ kw_192) (fun _ h9 => h9) rfl dX5_settle_122 ?_
  refine lv_idiv hx hb dX5_settle_125 (by decide) ?_
  refine z_i (v := 2) (by decide) ?_
  refine lv_goto (tgt := 130) hx hb dX5_settle_126 (by decide) ?_
  refine va_iast hx hb hK hP hD hS 2 1 rfl rfl (z_in (by decide)) dX5_settle_130 (fun H locs hP hD hS => ?_)
  obtain ⟨f130_13, hf130_13⟩ : ∃ z, z = upd f130_12 ((8 : Int32).toNatClampNeg) 2 := ⟨_, rfl⟩
  rw [← hf130_13] at hP hD
  have hP : va_P D vwCl [(h0, .inr (5, [.int 4, .int 4, .int (-1), .int 0, .ref b0, .ref b1, .ref b2, .ref b3, .ref b4, .int 0, .int 16, .int 4, .ref b5, .ref b6, .ref b7, .int c2])), (b5, .inl (k3, 4, .inl f82_4)), (b6, .inl (k4, 16, .inl f130_13)), (b7, .inl (k5, 1820, .inl f5))] H := hP
  have hD : va_D A [(h0, .inr (5, [.int 4, .int 4, .int (-1), .int 0, .ref b0, .ref b1, .ref b2, .ref b3, .ref b4, .int 0, .int 16, .int 4, .ref b5, .ref b6, .ref b7, .int c2])), (b5, .inl (k3, 4, .inl f82_4)), (b6, .inl (k4, 16, .inl f130_13)), (b7, .inl (k5, 1820, .inl f5))] := hD
  refine lv_iinc (v := 9) (lv' := [(1, .int 9), (0, .ref h0)]) hx hb dX5_settle_131 hl (k := 0) rfl (by decide) (by decide) rfl (fun ls hl => ?_)
  refine lv_goto (tgt := 91) hx hb dX5_settle_134 (by decide) ?_
  refine lv_iload_n hx hb dX5_settle_91 rfl (lv_at hl 0 rfl) ?_
  refine lv_aload_n hx hb dX5_settle_92 rfl (lv_at hl 1 rfl) ?_
  refine va_get (D := D) (ci := 5) (v := .ref b6) (C := RX5) (T := TX5) (N := 16) hx hb hts inX5 hown hK hP 0 rfl rfl 13 (by decide) (hts _ kw_236) (fun _ h9 => h9) rfl dX5_settle_93 ?_
  refine va_alen (v := 16) hx hb hK hP 2 1 rfl rfl rfl dX5_settle_96 ?_
  refine lv_icmp_ge (tgt := 137) hx hb dX5_settle_97 (by decide) (fun h => absurd h (by decide)) (fun _ => ?_)
  refine lv_aload_n hx hb dX5_settle_100 rfl (lv_at hl 1 rfl) ?_
  refine va_get (D := D) (ci := 5) (v := .ref b6) (C := RX5) (T := TX5) (N := 16) hx hb hts inX5 hown hK hP 0 rfl rfl 13 (by decide) (hts _ kw_236) (fun _ h9 => h9) rfl dX5_settle_101 ?_
  refine lv_iload_n hx hb dX5_settle_104 rfl (lv_at hl 0 rfl) ?_
  refine lv_iload_n hx hb dX5_settle_105 rfl (lv_at hl 0 rfl) ?_
  refine lv_aload_n hx hb dX5_settle_106 rfl (lv_at hl 1 rfl) ?_
  refine va_get (D := D) (ci := 5) (v := .int 16) (C := RX5) (T := TX5) (N := 16) hx hb hts inX5 hown hK hP 0 rfl rfl 10 (by decide) (hts _ kw_222) (fun _ h9 => h9) rfl dX5_settle_107 ?_
  refine lv_icmp_ge (tgt := 129) hx hb dX5_settle_110 (by decide) (fun h => absurd h (by decide)) (fun _ => ?_)
  refine lv_aload_n hx hb dX5_settle_113 rfl (lv_at hl 1 rfl) ?_
  refine va_get (D := D) (ci := 5) (v := .int 4) (C := RX5) (T := TX5) (N := 16) hx hb hts inX5 hown hK hP 0 rfl rfl 1 (by decide) (hts _ kw_192) (fun _ h9 => h9) rfl dX5_settle_114 ?_
  refine lv_if_le (tgt := 129) hx hb dX5_settle_117 (by decide) (fun h => absurd h (by decide)) (fun _ => ?_)
  refine lv_iload_n hx hb dX5_settle_120 rfl (lv_at hl 0 rfl) ?_
  refine lv_aload_n hx hb dX5_settle_121 rfl (lv_at hl 1 rfl) ?_
  refine va_get (D := D) (ci := 5) (v := .int 4) (C := RX5) (T := TX5) (N := 16) hx hb hts inX5 hown hK hP 0 rfl rfl 1 (by decide) (hts _ kw_192) (fun _ h9 => h9) rfl dX5_settle_122 ?_
  refine lv_idiv hx hb dX5_settle_125 (by decide) ?_
  refine z_i (v := 2) (by decide) ?_
  refine lv_goto (tgt := 130) hx hb dX5_settle_126 (by decide) ?_
  refine va_iast hx hb hK hP hD hS 2 1 rfl rfl (z_in (by decide)) dX5_settle_130 (fun H locs hP hD hS => ?_)
  obtain ⟨f130_14, hf130_14⟩ : ∃ z, z = upd f130_13 ((9 : Int32).toNatClampNeg) 2 := ⟨_, rfl⟩
  rw [← hf130_14] at hP hD
  have hP : va_P D vwCl [(h0, .inr (5, [.int 4, .int 4, .int (-1), .int 0, .ref b0, .ref b1, .ref b2, .ref b3, .ref b4, .int 0, .int 16, .int 4, .ref b5, .ref b6, .ref b7, .int c2])), (b5, .inl (k3, 4, .inl f82_4)), (b6, .inl (k4, 16, .inl f130_14)), (b7, .inl (k5, 1820, .inl f5))] H := hP
  have hD : va_D A [(h0, .inr (5, [.int 4, .int 4, .int (-1), .int 0, .ref b0, .ref b1, .ref b2, .ref b3, .ref b4, .int 0, .int 16, .int 4, .ref b5, .ref b6, .ref b7, .int c2])), (b5, .inl (k3, 4, .inl f82_4)), (b6, .inl (k4, 16, .inl f130_14)), (b7, .inl (k5, 1820, .inl f5))] := hD
  refine lv_iinc (v := 10) (lv' := [(1, .int 10), (0, .ref h0)]) hx hb dX5_settle_131 hl (k := 0) rfl (by decide) (by decide) rfl (fun ls hl => ?_)
  refine lv_goto (tgt := 91) hx hb dX5_settle_134 (by decide) ?_
  refine lv_iload_n hx hb dX5_settle_91 rfl (lv_at hl 0 rfl) ?_
  refine lv_aload_n hx hb dX5_settle_92 rfl (lv_at hl 1 rfl) ?_
  refine va_get (D := D) (ci := 5) (v := .ref b6) (C := RX5) (T := TX5) (N := 16) hx hb hts inX5 hown hK hP 0 rfl rfl 13 (by decide) (hts _ kw_236) (fun _ h9 => h9) rfl dX5_settle_93 ?_
  refine va_alen (v := 16) hx hb hK hP 2 1 rfl rfl rfl dX5_settle_96 ?_
  refine lv_icmp_ge (tgt := 137) hx hb dX5_settle_97 (by decide) (fun h => absurd h (by decide)) (fun _ => ?_)
  refine lv_aload_n hx hb dX5_settle_100 rfl (lv_at hl 1 rfl) ?_
  refine va_get (D := D) (ci := 5) (v := .ref b6) (C := RX5) (T := TX5) (N := 16) hx hb hts inX5 hown hK hP 0 rfl rfl 13 (by decide) (hts _ kw_236) (fun _ h9 => h9) rfl dX5_settle_101 ?_
  refine lv_iload_n hx hb dX5_settle_104 rfl (lv_at hl 0 rfl) ?_
  refine lv_iload_n hx hb dX5_settle_105 rfl (lv_at hl 0 rfl) ?_
  refine lv_aload_n hx hb dX5_settle_106 rfl (lv_at hl 1 rfl) ?_
  refine va_get (D := D) (ci := 5) (v := .int 16) (C := RX5) (T := TX5) (N := 16) hx hb hts inX5 hown hK hP 0 rfl rfl 10 (by decide) (hts _ kw_222) (fun _ h9 => h9) rfl dX5_settle_107 ?_
  refine lv_icmp_ge (tgt := 129) hx hb dX5_settle_110 (by decide) (fun h => absurd h (by decide)) (fun _ => ?_)
  refine lv_aload_n hx hb dX5_settle_113 rfl (lv_at hl 1 rfl) ?_
  refine va_get (D := D) (ci := 5) (v := .int 4) (C := RX5) (T := TX5) (N := 16) hx hb hts inX5 hown hK hP 0 rfl rfl 1 (by decide) (hts _ kw_192) (fun _ h9 => h9) rfl dX5_settle_114 ?_
  refine lv_if_le (tgt := 129) hx hb dX5_settle_117 (by decide) (fun h => absurd h (by decide)) (fun _ => ?_)
  refine lv_iload_n hx hb dX5_settle_120 rfl (lv_at hl 0 rfl) ?_
  refine lv_aload_n hx hb dX5_settle_121 rfl (lv_at hl 1 rfl) ?_
  refine va_get (D := D) (ci := 5) (v := .int 4) (C := RX5) (T := TX5) (N := 16) hx hb hts inX5 hown hK hP 0 rfl rfl 1 (by decide) (hts _ kw_192) (fun _ h9 => h9) rfl dX5_settle_122 ?_
  refine lv_idiv hx hb dX5_settle_125 (by decide) ?_
  refine z_i (v := 2) (by decide) ?_
  refine lv_goto (tgt := 130) hx hb dX5_settle_126 (by decide) ?_
  refine va_iast hx hb hK hP hD hS 2 1 rfl rfl (z_in (by decide)) dX5_settle_130 (fun H locs hP hD hS => ?_)
  obtain ⟨f130_15, hf130_15⟩ : ∃ z, z = upd f130_14 ((10 : Int32).toNatClampNeg) 2 := ⟨_, rfl⟩
  rw [← hf130_15] at hP hD
  have hP : va_P D vwCl [(h0, .inr (5, [.int 4, .int 4, .int (-1), .int 0, .ref b0, .ref b1, .ref b2, .ref b3, .ref b4, .int 0, .int 16, .int 4, .ref b5, .ref b6, .ref b7, .int c2])), (b5, .inl (k3, 4, .inl f82_4)), (b6, .inl (k4, 16, .inl f130_15)), (b7, .inl (k5, 1820, .inl f5))] H := hP
  have hD : va_D A [(h0, .inr (5, [.int 4, .int 4, .int (-1), .int 0, .ref b0, .ref b1, .ref b2, .ref b3, .ref b4, .int 0, .int 16, .int 4, .ref b5, .ref b6, .ref b7, .int c2])), (b5, .inl (k3, 4, .inl f82_4)), (b6, .inl (k4, 16, .inl f130_15)), (b7, .inl (k5, 1820, .inl f5))] := hD
  refine lv_iinc (v := 11) (lv' := [(1, .int 11), (0, .ref h0)]) hx hb dX5_settle_131 hl (k := 0) rfl (by decide) (by decide) rfl (fun ls hl => ?_)
  refine lv_goto (tgt := 91) hx hb dX5_settle_134 (by decide) ?_
  refine lv_iload_n hx hb dX5_settle_91 rfl (lv_at hl 0 rfl) ?_
  refine lv_aload_n hx hb dX5_settle_92 rfl (lv_at hl 1 rfl) ?_
  refine va_get (D := D) (ci := 5) (v := .ref b6) (C := RX5) (T := TX5) (N := 16) hx hb hts inX5 hown hK hP 0 rfl rfl 13 (by decide) (hts _ kw_236) (fun _ h9 => h9) rfl dX5_settle_93 ?_
  refine va_alen (v := 16) hx hb hK hP 2 1 rfl rfl rfl dX5_settle_96 ?_
  refine lv_icmp_ge (tgt := 137) hx hb dX5_settle_97 (by decide) (fun h => absurd h (by decide)) (fun _ => ?_)
  refine lv_aload_n hx hb dX5_settle_100 rfl (lv_at hl 1 rfl) ?_
  refine va_get (D := D) (ci := 5) (v := .ref b6) (C := RX5) (T := TX5) (N := 16) hx hb hts inX5 hown hK hP 0 rfl rfl 13 (by decide) (hts _ kw_236) (fun _ h9 => h9) rfl dX5_settle_101 ?_
  refine lv_iload_n hx hb dX5_settle_104 rfl (lv_at hl 0 rfl) ?_
  refine lv_iload_n hx hb dX5_settle_105 rfl (lv_at hl 0 rfl) ?_
  refine lv_aload_n hx hb dX5_settle_106 rfl (lv_at hl 1 rfl) ?_
  refine va_get (D := D) (ci := 5) (v := .int 16) (C := RX5) (T := TX5) (N := 16) hx hb hts inX5 hown hK hP 0 rfl rfl 10 (by decide) (hts _ kw_222) (fun _ h9 => h9) rfl dX5_settle_107 ?_
  refine lv_icmp_ge (tgt := 129) hx hb dX5_settle_110 (by decide) (fun h => absurd h (by decide)) (fun _ => ?_)
  refine lv_aload_n hx hb dX5_settle_113 rfl (lv_at hl 1 rfl) ?_
  refine va_get (D := D) (ci := 5) (v := .int 4) (C := RX5) (T := TX5) (N := 16) hx hb hts inX5 hown hK hP 0 rfl rfl 1 (by decide) (hts _ kw_192) (fun _ h9 => h9) rfl dX5_settle_114 ?_
  refine lv_if_le (tgt := 129) hx hb dX5_settle_117 (by decide) (fun h => absurd h (by decide)) (fun _ => ?_)
  refine lv_iload_n hx hb dX5_settle_120 rfl (lv_at hl 0 rfl) ?_
  refine lv_aload_n hx hb dX5_settle_121 rfl (lv_at hl 1 rfl) ?_
  refine va_get (D := D) (ci := 5) (v := .int 4) (C := RX5) (T := TX5) (N := 16) hx hb hts inX5 hown hK hP 0 rfl rfl 1 (by decide) (hts _ kw_192) (fun _ h9 => h9) rfl dX5_settle_122 ?_
  refine lv_idiv hx hb dX5_settle_125 (by decide) ?_
  refine z_i (v := 2) (by decide) ?_
  refine lv_goto (tgt := 130) hx hb dX5_settle_126 (by decide) ?_
  refine va_iast hx hb hK hP hD hS 2 1 rfl rfl (z_in (by decide)) dX5_settle_130 (fun H locs hP hD hS => ?_)
  obtain ⟨f130_16, hf130_16⟩ : ∃ z, z = upd f130_15 ((11 : Int32).toNatClampNeg) 2 := ⟨_, rfl⟩
  rw [← hf130_16] at hP hD
  have hP : va_P D vwCl [(h0, .inr (5, [.int 4, .int 4, .int (-1), .int 0, .ref b0, .ref b1, .ref b2, .ref b3, .ref b4, .int 0, .int 16, .int 4, .ref b5, .ref b6, .ref b7, .int c2])), (b5, .inl (k3, 4, .inl f82_4)), (b6, .inl (k4, 16, .inl f130_16)), (b7, .inl (k5, 1820, .inl f5))] H := hP
  have hD : va_D A [(h0, .inr (5, [.int 4, .int 4, .int (-1), .int 0, .ref b0, .ref b1, .ref b2, .ref b3, .ref b4, .int 0, .int 16, .int 4, .ref b5, .ref b6, .ref b7, .int c2])), (b5, .inl (k3, 4, .inl f82_4)), (b6, .inl (k4, 16, .inl f130_16)), (b7, .inl (k5, 1820, .inl f5))] := hD
  refine lv_iinc (v := 12) (lv' := [(1, .int 12), (0, .ref h0)]) hx hb dX5_settle_131 hl (k := 0) rfl (by decide) (by decide) rfl (fun ls hl => ?_)
  refine lv_goto (tgt := 91) hx hb dX5_settle_134 (by decide) ?_
  refine lv_iload_n hx hb dX5_settle_91 rfl (lv_at hl 0 rfl) ?_
  refine lv_aload_n hx hb dX5_settle_92 rfl (lv_at hl 1 rfl) ?_
  refine va_get (D := D) (ci := 5) (v := .ref b6) (C := RX5) (T := TX5) (N := 16) hx hb hts inX5 hown hK hP 0 rfl rfl 13 (by decide) (hts _ kw_236) (fun _ h9 => h9) rfl dX5_settle_93 ?_
  refine va_alen (v := 16) hx hb hK hP 2 1 rfl rfl rfl dX5_settle_96 ?_
  refine lv_icmp_ge (tgt := 137) hx hb dX5_settle_97 (by decide) (fun h => absurd h (by decide)) (fun _ => ?_)
  refine lv_aload_n hx hb dX5_settle_100 rfl (lv_at hl 1 rfl) ?_
  refine va_get (D := D) (ci := 5) (v := .ref b6) (C := RX5) (T := TX5) (N := 16) hx hb hts inX5 hown hK hP 0 rfl rfl 13 (by decide) (hts _ kw_236) (fun _ h9 => h9) rfl dX5_settle_101 ?_
  refine lv_iload_n hx hb dX5_settle_104 rfl (lv_at hl 0 rfl) ?_
  refine lv_iload_n hx hb dX5_settle_105 rfl (lv_at hl 0 rfl) ?_
  refine lv_aload_n hx hb dX5_settle_106 rfl (lv_at hl 1 rfl) ?_
  refine va_get (D := D) (ci := 5) (v := .int 16) (C := RX5) (T := TX5) (N := 16) hx hb hts inX5 hown hK hP 0 rfl rfl 10 (by decide) (hts _ kw_222) (fun _ h9 => h9) rfl dX5_settle_107 ?_
  refine lv_icmp_ge (tgt := 129) hx hb dX5_settle_110 (by decide) (fun h => absurd h (by decide)) (fun _ => ?_)
  refine lv_aload_n hx hb dX5_settle_113 rfl (lv_at hl 1 rfl) ?_
  refine va_get (D := D) (ci := 5) (v := .int 4) (C := RX5) (T := TX5) (N := 16) hx hb hts inX5 hown hK hP 0 rfl rfl 1 (by decide) (hts _ kw_192) (fun _ h9 => h9) rfl dX5_settle_114 ?_
  refine lv_if_le (tgt := 129) hx hb dX5_settle_117 (by decide) (fun h => absurd h (by decide)) (fun _ => ?_)
  refine lv_iload_n hx hb dX5_settle_120 rfl (lv_at hl 0 rfl) ?_
  refine lv_aload_n hx hb dX5_settle_121 rfl (lv_at hl 1 rfl) ?_
  refine va_get (D := D) (ci := 5) (v := .int 4) (C := RX5) (T := TX5) (N := 16) hx hb hts inX5 hown hK hP 0 rfl rfl 1 (by decide) (hts _ kw_192) (fun _ h9 => h9) rfl dX5_settle_122 ?_
  refine lv_idiv hx hb dX5_settle_125 (by decide) ?_
  refine z_i (v := 3) (by decide) ?_
  refine lv_goto (tgt := 130) hx hb dX5_settle_126 (by decide) ?_
  refine va_iast hx hb hK hP hD hS 2 1 rfl rfl (z_in (by decide)) dX5_settle_130 (fun H locs hP hD hS => ?_)
  obtain ⟨f130_17, hf130_17⟩ : ∃ z, z = upd f130_16 ((12 : Int32).toNatClampNeg) 3 := ⟨_, rfl⟩
  rw [← hf130_17] at hP hD
  have hP : va_P D vwCl [(h0, .inr (5, [.int 4, .int 4, .int (-1), .int 0, .ref b0, .ref b1, .ref b2, .ref b3, .ref b4, .int 0, .int 16, .int 4, .ref b5, .ref b6, .ref b7, .int c2])), (b5, .inl (k3, 4, .inl f82_4)), (b6, .inl (k4, 16, .inl f130_17)), (b7, .inl (k5, 1820, .inl f5))] H := hP
  have hD : va_D A [(h0, .inr (5, [.int 4, .int 4, .int (-1), .int 0, .ref b0, .ref b1, .ref b2, .ref b3, .ref b4, .int 0, .int 16, .int 4, .ref b5, .ref b6, .ref b7, .int c2])), (b5, .inl (k3, 4, .inl f82_4)), (b6, .inl (k4, 16, .inl f130_17)), (b7, .inl (k5, 1820, .inl f5))] := hD
  refine lv_iinc (v := 13) (lv' := [(1, .int 13), (0, .ref h0)]) hx hb dX5_settle_131 hl (k := 0) rfl (by decide) (by decide) rfl (fun ls hl => ?_)
  refine lv_goto (tgt := 91) hx hb dX5_settle_134 (by decide) ?_
  refine lv_iload_n hx hb dX5_settle_91 rfl (lv_at hl 0 rfl) ?_
  refine lv_aload_n hx hb dX5_settle_92 rfl (lv_at hl 1 rfl) ?_
  refine va_get (D := D) (ci := 5) (v := .ref b6) (C := RX5) (T := TX5) (N := 16) hx hb hts inX5 hown hK hP 0 rfl rfl 13 (by decide) (hts _ kw_236) (fun _ h9 => h9) rfl dX5_settle_93 ?_
  refine va_alen (v := 16) hx hb hK hP 2 1 rfl rfl rfl dX5_settle_96 ?_
  refine lv_icmp_ge (tgt := 137) hx hb dX5_settle_97 (by decide) (fun h => absurd h (by decide)) (fun _ => ?_)
  refine lv_aload_n hx hb dX5_settle_100 rfl (lv_at hl 1 rfl) ?_
  refine va_get (D := D) (ci := 5) (v := .ref b6) (C := RX5) (T := TX5) (N := 16) hx hb hts inX5 hown hK hP 0 rfl rfl 13 (by decide) (hts _ kw_236) (fun _ h9 => h9) rfl dX5_settle_101 ?_
  refine lv_iload_n hx hb dX5_settle_104 rfl (lv_at hl 0 rfl) ?_
  refine lv_iload_n hx hb dX5_settle_105 rfl (lv_at hl 0 rfl) ?_
  refine lv_aload_n hx hb dX5_settle_106 rfl (lv_at hl 1 rfl) ?_
  refine va_get (D := D) (ci := 5) (v := .int 16) (C := RX5) (T := TX5) (N := 16) hx hb hts inX5 hown hK hP 0 rfl rfl 10 (by decide) (hts _ kw_222) (fun _ h9 => h9) rfl dX5_settle_107 ?_
  refine lv_icmp_ge (tgt := 129) hx hb dX5_settle_110 (by decide) (fun h => absurd h (by decide)) (fun _ => ?_)
  refine lv_aload_n hx hb dX5_settle_113 rfl (lv_at hl 1 rfl) ?_
  refine va_get (D := D) (ci := 5) (v := .int 4) (C := RX5) (T := TX5) (N := 16) hx hb hts inX5 hown hK hP 0 rfl rfl 1 (by decide) (hts _ kw_192) (fun _ h9 => h9) rfl dX5_settle_114 ?_
  refine lv_if_le (tgt := 129) hx hb dX5_settle_117 (by decide) (fun h => absurd h (by decide)) (fun _ => ?_)
  refine lv_iload_n hx hb dX5_settle_120 rfl (lv_at hl 0 rfl) ?_
  refine lv_aload_n hx hb dX5_settle_121 rfl (lv_at hl 1 rfl) ?_
  refine va_get (D := D) (ci := 5) (v := .int 4) (C := RX5) (T := TX5) (N := 16) hx hb hts inX5 hown hK hP 0 rfl rfl 1 (by decide) (hts _ kw_192) (fun _ h9 => h9) rfl dX5_settle_122 ?_
  refine lv_idiv hx hb dX5_settle_125 (by decide) ?_
  refine z_i (v := 3) (by decide) ?_
  refine lv_goto (tgt := 130) hx hb dX5_settle_126 (by decide) ?_
  refine va_iast hx hb hK hP hD hS 2 1 rfl rfl (z_in (by decide)) dX5_settle_130 (fun H locs hP hD hS => ?_)
  obtain ⟨f130_18, hf130_18⟩ : ∃ z, z = upd f130_17 ((13 : Int32).toNatClampNeg) 3 := ⟨_, rfl⟩
  rw [← hf130_18] at hP hD
  have hP : va_P D vwCl [(h0, .inr (5, [.int 4, .int 4, .int (-1), .int 0, .ref b0, .ref b1, .ref b2, .ref b3, .ref b4, .int 0, .int 16, .int 4, .ref b5, .ref b6, .ref b7, .int c2])), (b5, .inl (k3, 4, .inl f82_4)), (b6, .inl (k4, 16, .inl f130_18)), (b7, .inl (k5, 1820, .inl f5))] H := hP
  have hD : va_D A [(h0, .inr (5, [.int 4, .int 4, .int (-1), .int 0, .ref b0, .ref b1, .ref b2, .ref b3, .ref b4, .int 0, .int 16, .int 4, .ref b5, .ref b6, .ref b7, .int c2])), (b5, .inl (k3, 4, .inl f82_4)), (b6, .inl (k4, 16, .inl f130_18)), (b7, .inl (k5, 1820, .inl f5))] := hD
  refine lv_iinc (v := 14) (lv' := [(1, .int 14), (0, .ref h0)]) hx hb dX5_settle_131 hl (k := 0) rfl (by decide) (by decide) rfl (fun ls hl => ?_)
  refine lv_goto (tgt := 91) hx hb dX5_settle_134 (by decide) ?_
  refine lv_iload_n hx hb dX5_settle_91 rfl (lv_at hl 0 rfl) ?_
  refine lv_aload_n hx hb dX5_settle_92 rfl (lv_at hl 1 rfl) ?_
  refine va_get (D := D) (ci := 5) (v := .ref b6) (C := RX5) (T := TX5) (N := 16) hx hb hts inX5 hown hK hP 0 rfl rfl 13 (by decide) (hts _ kw_236) (fun _ h9 => h9) rfl dX5_settle_93 ?_
  refine va_alen (v := 16) hx hb hK hP 2 1 rfl rfl rfl dX5_settle_96 ?_
  refine lv_icmp_ge (tgt := 137) hx hb dX5_settle_97 (by decide) (fun h => absurd h (by decide)) (fun _ => ?_)
  refine lv_aload_n hx hb dX5_settle_100 rfl (lv_at hl 1 rfl) ?_
  refine va_get (D := D) (ci := 5) (v := .ref b6) (C := RX5) (T := TX5) (N := 16) hx hb hts inX5 hown hK hP 0 rfl rfl 13 (by decide) (hts _ kw_236) (fun _ h9 => h9) rfl dX5_settle_101 ?_
  refine lv_iload_n hx hb dX5_settle_104 rfl (lv_at hl 0 rfl) ?_
  refine lv_iload_n hx hb dX5_settle_105 rfl (lv_at hl 0 rfl) ?_
  refine lv_aload_n hx hb dX5_settle_106 rfl (lv_at hl 1 rfl) ?_
  refine va_get (D := D) (ci := 5) (v := .int 16) (C := RX5) (T := TX5) (N := 16) hx hb hts inX5 hown hK hP 0 rfl rfl 10 (by decide) (hts _ kw_222) (fun _ h9 => h9) rfl dX5_settle_107 ?_
  refine lv_icmp_ge (tgt := 129) hx hb dX5_settle_110 (by decide) (fun h => absurd h (by decide)) (fun _ => ?_)
  refine lv_aload_n hx hb dX5_settle_113 rfl (lv_at hl 1 rfl) ?_
  refine va_get (D := D) (ci := 5) (v := .int 4) (C := RX5) (T := TX5) (N := 16) hx hb hts inX5 hown hK hP 0 rfl rfl 1 (by decide) (hts _ kw_192) (fun _ h9 => h9) rfl dX5_settle_114 ?_
  refine lv_if_le (tgt := 129) hx hb dX5_settle_117 (by decide) (fun h => absurd h (by decide)) (fun _ => ?_)
  refine lv_iload_n hx hb dX5_settle_120 rfl (lv_at hl 0 rfl) ?_
  refine lv_aload_n hx hb dX5_settle_121 rfl (lv_at hl 1 rfl) ?_
  refine va_get (D := D) (ci := 5) (v := .int 4) (C := RX5) (T := TX5) (N := 16) hx hb hts inX5 hown hK hP 0 rfl rfl 1 (by decide) (hts _ kw_192) (fun _ h9 => h9) rfl dX5_settle_122 ?_
  refine lv_idiv hx hb dX5_settle_125 (by decide) ?_
  refine z_i (v := 3) (by decide) ?_
  refine lv_goto (tgt := 130) hx hb dX5_settle_126 (by decide) ?_
  refine va_iast hx hb hK hP hD hS 2 1 rfl rfl (z_in (by decide)) dX5_settle_130 (fun H locs hP hD hS => ?_)
  obtain ⟨f130_19, hf130_19⟩ : ∃ z, z = upd f130_18 ((14 : Int32).toNatClampNeg) 3 := ⟨_, rfl⟩
  rw [← hf130_19] at hP hD
  have hP : va_P D vwCl [(h0, .inr (5, [.int 4, .int 4, .int (-1), .int 0, .ref b0, .ref b1, .ref b2, .ref b3, .ref b4, .int 0, .int 16, .int 4, .ref b5, .ref b6, .ref b7, .int c2])), (b5, .inl (k3, 4, .inl f82_4)), (b6, .inl (k4, 16, .inl f130_19)), (b7, .inl (k5, 1820, .inl f5))] H := hP
  have hD : va_D A [(h0, .inr (5, [.int 4, .int 4, .int (-1), .int 0, .ref b0, .ref b1, .ref b2, .ref b3, .ref b4, .int 0, .int 16, .int 4, .ref b5, .ref b6, .ref b7, .int c2])), (b5, .inl (k3, 4, .inl f82_4)), (b6, .inl (k4, 16, .inl f130_19)), (b7, .inl (k5, 1820, .inl f5))] := hD
  refine lv_iinc (v := 15) (lv' := [(1, .int 15), (0, .ref h0)]) hx hb dX5_settle_131 hl (k := 0) rfl (by decide) (by decide) rfl (fun ls hl => ?_)
  refine lv_goto (tgt := 91) hx hb dX5_settle_134 (by decide) ?_
  refine lv_iload_n hx hb dX5_settle_91 rfl (lv_at hl 0 rfl) ?_
  refine lv_aload_n hx hb dX5_settle_92 rfl (lv_at hl 1 rfl) ?_
  refine va_get (D := D) (ci := 5) (v := .ref b6) (C := RX5) (T := TX5) (N := 16) hx hb hts inX5 hown hK hP 0 rfl rfl 13 (by decide) (hts _ kw_236) (fun _ h9 => h9) rfl dX5_settle_93 ?_
  refine va_alen (v := 16) hx hb hK hP 2 1 rfl rfl rfl dX5_settle_96 ?_
  refine lv_icmp_ge (tgt := 137) hx hb dX5_settle_97 (by decide) (fun h => absurd h (by decide)) (fun _ => ?_)
  refine lv_aload_n hx hb dX5_settle_100 rfl (lv_at hl 1 rfl) ?_
  refine va_get (D := D) (ci := 5) (v := .ref b6) (C := RX5) (T := TX5) (N := 16) hx hb hts inX5 hown hK hP 0 rfl rfl 13 (by decide) (hts _ kw_236) (fun _ h9 => h9) rfl dX5_settle_101 ?_
  refine lv_iload_n hx hb dX5_settle_104 rfl (lv_at hl 0 rfl) ?_
  refine lv_iload_n hx hb dX5_settle_105 rfl (lv_at hl 0 rfl) ?_
  refine lv_aload_n hx hb dX5_settle_106 rfl (lv_at hl 1 rfl) ?_
  refine va_get (D := D) (ci := 5) (v := .int 16) (C := RX5) (T := TX5) (N := 16) hx hb hts inX5 hown hK hP 0 rfl rfl 10 (by decide) (hts _ kw_222) (fun _ h9 => h9) rfl dX5_settle_107 ?_
  refine lv_icmp_ge (tgt := 129) hx hb dX5_settle_110 (by decide) (fun h => absurd h (by decide)) (fun _ => ?_)
  refine lv_aload_n hx hb dX5_settle_113 rfl (lv_at hl 1 rfl) ?_
  refine va_get (D := D) (ci := 5) (v := .int 4) (C := RX5) (T := TX5) (N := 16) hx hb hts inX5 hown hK hP 0 rfl rfl 1 (by decide) (hts _ kw_192) (fun _ h9 => h9) rfl dX5_settle_114 ?_
  refine lv_if_le (tgt := 129) hx hb dX5_settle_117 (by decide) (fun h => absurd h (by decide)) (fun _ => ?_)
  refine lv_iload_n hx hb dX5_settle_120 rfl (lv_at hl 0 rfl) ?_
  refine lv_aload_n hx hb dX5_settle_121 rfl (lv_at hl 1 rfl) ?_
  refine va_get (D := D) (ci := 5) (v := .int 4) (C := RX5) (T := TX5) (N := 16) hx hb hts inX5 hown hK hP 0 rfl rfl 1 (by decide) (hts _ kw_192) (fun _ h9 => h9) rfl dX5_settle_122 ?_
  refine lv_idiv hx hb dX5_settle_125 (by decide) ?_
  refine z_i (v := 3) (by decide) ?_
  refine lv_goto (tgt := 130) hx hb dX5_settle_126 (by decide) ?_
  refine va_iast hx hb hK hP hD hS 2 1 rfl rfl (z_in (by decide)) dX5_settle_130 (fun H locs hP hD hS => ?_)
  obtain ⟨f130_20, hf130_20⟩ : ∃ z, z = upd f130_19 ((15 : Int32).toNatClampNeg) 3 := ⟨_, rfl⟩
  rw [← hf130_20] at hP hD
  have hP : va_P D vwCl [(h0, .inr (5, [.int 4, .int 4, .int (-1), .int 0, .ref b0, .ref b1, .ref b2, .ref b3, .ref b4, .int 0, .int 16, .int 4, .ref b5, .ref b6, .ref b7, .int c2])), (b5, .inl (k3, 4, .inl f82_4)), (b6, .inl (k4, 16, .inl f130_20)), (b7, .inl (k5, 1820, .inl f5))] H := hP
  have hD : va_D A [(h0, .inr (5, [.int 4, .int 4, .int (-1), .int 0, .ref b0, .ref b1, .ref b2, .ref b3, .ref b4, .int 0, .int 16, .int 4, .ref b5, .ref b6, .ref b7, .int c2])), (b5, .inl (k3, 4, .inl f82_4)), (b6, .inl (k4, 16, .inl f130_20)), (b7, .inl (k5, 1820, .inl f5))] := hD
  refine lv_iinc (v := 16) (lv' := [(1, .int 16), (0, .ref h0)]) hx hb dX5_settle_131 hl (k := 0) rfl (by decide) (by decide) rfl (fun ls hl => ?_)
  refine lv_goto (tgt := 91) hx hb dX5_settle_134 (by decide) ?_
  refine lv_iload_n hx hb dX5_settle_91 rfl (lv_at hl 0 rfl) ?_
  refine lv_aload_n hx hb dX5_settle_92 rfl (lv_at hl 1 rfl) ?_
  refine va_get (D := D) (ci := 5) (v := .ref b6) (C := RX5) (T := TX5) (N := 16) hx hb hts inX5 hown hK hP 0 rfl rfl 13 (by decide) (hts _ kw_236) (fun _ h9 => h9) rfl dX5_settle_93 ?_
  refine va_alen (v := 16) hx hb hK hP 2 1 rfl rfl rfl dX5_settle_96 ?_
  refine lv_icmp_ge (tgt := 137) hx hb dX5_settle_97 (by decide) (fun _ => ?_) (fun h => absurd (by decide) h)
  refine lv_aload_n hx hb dX5_settle_137 rfl (lv_at hl 1 rfl) ?_
  refine wr_V (As := []) (rest := []) caV_SignalTable_Laws_60 hx hb hml hown hts hP hD hK hS hA (isC := [0, 3]) (isR := [1, 2]) (isT := [2]) (wr := [(b5, .inl (k3, 4, .inl f82_4)), (b6, .inl (k4, 16, .inl f130_20))]) ⟨rfl, rfl, rfl, rfl, by decide⟩ rfl (wX5_listHands h0 b0 b1 b2 b3 b4 b5 b6 b7 c2 k5 f5) bl_T (fun _ _ _ => trivial) (ci := 5) (q0 := 0) rfl rfl (by decide) rfl hl.1 (Nat.le_of_ble_eq_true rfl) (by decide) dX5_settle_138 rfl (fun q21 k21 g21 l21 H locs hP hD hK hS => ?_)
  have hP : va_P D vwCl [(b5, .inl (k3, 4, .inl f82_4)), (b6, .inl (k4, 16, .inl f130_20)), (h0, .inr (5, [.int 4, .int 4, .int (-1), .int 0, .ref b0, .ref b1, .ref b2, .ref b3, .ref b4, .int 0, .int 16, .int 4, .ref b5, .ref b6, .ref b7, .int 1820])), (b7, .inl (k5, 1820, .inl (g21 5)))] H := hP
  have hD : va_D A [(b5, .inl (k3, 4, .inl f82_4)), (b6, .inl (k4, 16, .inl f130_20)), (h0, .inr (5, [.int 4, .int 4, .int (-1), .int 0, .ref b0, .ref b1, .ref b2, .ref b3, .ref b4, .int 0, .int 16, .int 4, .ref b5, .ref b6, .ref b7, .int 1820])), (b7, .inl (k5, 1820, .inl (g21 5)))] := hD
  have hK : va_K D vwCl [(k3, .int), (k4, .int), (k5, .int), (k5, .int)] s := hK
  refine W.cs (cells' := 0) (slots' := 0) rfl rfl ?_
  have hK : va_K D vwCl [(k3, .int), (k4, .int), (k5, .int)] s := hK.sub [0, 1, 2] rfl
  exact wr_v (q := (fun _ => 0)) (k := (fun _ => 0)) (g := (fun i => match i with | 3 => f82_4 | 4 => f130_20 | 5 => (g21 5) | _ => fun _ => 0)) (gl := (fun _ => fun _ => 0)) hx hb hr hlocks hS (hP.sub [2, 0, 1, 3] rfl) (hK.sub [0, 1, 2] rfl) (hD.sub [2, 0, 1, 3] (by decide) rfl) dX5_settle_141
end
