/-! names -/
abbrev cX12_appends : ByteArray := prog_14_method_9_code
def yX12_appends : MethodName := ⟨RX12, "appends", "(JI)J"⟩
abbrev cX12_init : ByteArray := prog_14_method_2_code
def yX12_init : MethodName := ⟨RX12, "<init>", "()V"⟩
abbrev cX12_word : ByteArray := prog_14_method_10_code
def yX12_word : MethodName := ⟨RX12, "word", "(IIIIIII)J"⟩
theorem kw_171 : Cond.initialized "SignalTableModel" ∈ lwg := wu_mem (i := 171) (by decide +kernel) rfl
theorem kw_1505 : Cond.methodLink "SignalTableModel" 7 ⟨"java/lang/Object", "<init>", "()V"⟩ ∈ lwg := wu_mem (i := 1505) (by decide +kernel) rfl
theorem kw_1506 : Cond.constant "SignalTableModel" 131 65536 ∈ lwg := wu_mem (i := 1506) (by decide +kernel) rfl
theorem kw_1507 : Cond.constant "SignalTableModel" 135 262144 ∈ lwg := wu_mem (i := 1507) (by decide +kernel) rfl
theorem kw_1508 : Cond.methodLink "SignalTableModel" 202 yX12_word ∈ lwg := wu_mem (i := 1508) (by decide +kernel) rfl
theorem kw_1509 : Cond.static yX12_word ∈ lwg := wu_mem (i := 1509) (by decide +kernel) rfl
theorem kw_1510 : Cond.code yX12_word cX12_word 7 (some .long) ∈ lwg := wu_mem (i := 1510) (by decide +kernel) rfl
theorem kw_1511 : Cond.methodLink "SignalTableModel" 218 yX12_appends ∈ lwg := wu_mem (i := 1511) (by decide +kernel) rfl
theorem kw_1512 : Cond.static yX12_appends ∈ lwg := wu_mem (i := 1512) (by decide +kernel) rfl
theorem kw_1513 : Cond.code yX12_appends cX12_appends 3 (some .long) ∈ lwg := wu_mem (i := 1513) (by decide +kernel) rfl
theorem kw_1514 : Cond.constantLong "SignalTableModel" 216 27 ∈ lwg := wu_mem (i := 1514) (by decide +kernel) rfl
theorem kw_1515 : Cond.fieldLink "SignalTableModel" 13 "SignalTableModel" "tape" "[B" ∈ lwg := wu_mem (i := 1515) (by decide +kernel) rfl
theorem kw_1517 : Cond.fieldLink "SignalTableModel" 17 "SignalTableModel" "text" "[B" ∈ lwg := wu_mem (i := 1517) (by decide +kernel) rfl
theorem kw_1519 : Cond.fieldLink "SignalTableModel" 20 "SignalTableModel" "tKind" "[I" ∈ lwg := wu_mem (i := 1519) (by decide +kernel) rfl
theorem kw_1520 : Cond.fieldLink "SignalTableModel" 24 "SignalTableModel" "tPlace" "[I" ∈ lwg := wu_mem (i := 1520) (by decide +kernel) rfl
theorem kw_1521 : Cond.fieldLink "SignalTableModel" 27 "SignalTableModel" "tValue" "[I" ∈ lwg := wu_mem (i := 1521) (by decide +kernel) rfl
theorem kw_1522 : Cond.fieldLink "SignalTableModel" 30 "SignalTableModel" "tName" "[J" ∈ lwg := wu_mem (i := 1522) (by decide +kernel) rfl
theorem kw_1523 : Cond.fieldLink "SignalTableModel" 34 "SignalTableModel" "keys" "[J" ∈ lwg := wu_mem (i := 1523) (by decide +kernel) rfl
theorem kw_1531 : Cond.fieldLink "SignalTableModel" 37 "SignalTableModel" "place" "I" ∈ lwg := wu_mem (i := 1531) (by decide +kernel) rfl
theorem kw_1535 : Cond.fieldLink "SignalTableModel" 40 "SignalTableModel" "nameOf" "[J" ∈ lwg := wu_mem (i := 1535) (by decide +kernel) rfl
theorem kw_1536 : Cond.fieldLink "SignalTableModel" 43 "SignalTableModel" "suits" "[I" ∈ lwg := wu_mem (i := 1536) (by decide +kernel) rfl
theorem kw_1537 : Cond.fieldLink "SignalTableModel" 46 "SignalTableModel" "ranks" "[I" ∈ lwg := wu_mem (i := 1537) (by decide +kernel) rfl
theorem kw_1538 : Cond.fieldLink "SignalTableModel" 49 "SignalTableModel" "trump" "[I" ∈ lwg := wu_mem (i := 1538) (by decide +kernel) rfl
theorem kw_1539 : Cond.fieldLink "SignalTableModel" 52 "SignalTableModel" "customs" "[I" ∈ lwg := wu_mem (i := 1539) (by decide +kernel) rfl
theorem kw_1540 : Cond.fieldLink "SignalTableModel" 55 "SignalTableModel" "customSide" "[I" ∈ lwg := wu_mem (i := 1540) (by decide +kernel) rfl
theorem kw_1541 : Cond.fieldLink "SignalTableModel" 58 "SignalTableModel" "customKind" "[I" ∈ lwg := wu_mem (i := 1541) (by decide +kernel) rfl
theorem kw_1542 : Cond.fieldLink "SignalTableModel" 61 "SignalTableModel" "litFirst" "[I" ∈ lwg := wu_mem (i := 1542) (by decide +kernel) rfl
theorem kw_1543 : Cond.fieldLink "SignalTableModel" 64 "SignalTableModel" "litLast" "[I" ∈ lwg := wu_mem (i := 1543) (by decide +kernel) rfl
theorem kw_1545 : Cond.fieldLink "SignalTableModel" 67 "SignalTableModel" "litSort" "[I" ∈ lwg := wu_mem (i := 1545) (by decide +kernel) rfl
theorem kw_1546 : Cond.fieldLink "SignalTableModel" 70 "SignalTableModel" "litNot" "[Z" ∈ lwg := wu_mem (i := 1546) (by decide +kernel) rfl
theorem kw_1547 : Cond.fieldLink "SignalTableModel" 74 "SignalTableModel" "litOr" "[Z" ∈ lwg := wu_mem (i := 1547) (by decide +kernel) rfl
theorem kw_1548 : Cond.fieldLink "SignalTableModel" 77 "SignalTableModel" "litLeft" "[I" ∈ lwg := wu_mem (i := 1548) (by decide +kernel) rfl
theorem kw_1549 : Cond.fieldLink "SignalTableModel" 80 "SignalTableModel" "litRight" "[I" ∈ lwg := wu_mem (i := 1549) (by decide +kernel) rfl
theorem kw_1550 : Cond.fieldLink "SignalTableModel" 83 "SignalTableModel" "litEnd" "[I" ∈ lwg := wu_mem (i := 1550) (by decide +kernel) rfl
theorem kw_1552 : Cond.fieldLink "SignalTableModel" 86 "SignalTableModel" "code" "[I" ∈ lwg := wu_mem (i := 1552) (by decide +kernel) rfl
theorem kw_1553 : Cond.fieldLink "SignalTableModel" 89 "SignalTableModel" "codeInt" "[I" ∈ lwg := wu_mem (i := 1553) (by decide +kernel) rfl
theorem kw_1554 : Cond.fieldLink "SignalTableModel" 92 "SignalTableModel" "waits" "[I" ∈ lwg := wu_mem (i := 1554) (by decide +kernel) rfl
theorem kw_1556 : Cond.fieldLink "SignalTableModel" 95 "SignalTableModel" "variables" "[I" ∈ lwg := wu_mem (i := 1556) (by decide +kernel) rfl
theorem kw_1557 : Cond.fieldLink "SignalTableModel" 98 "SignalTableModel" "pile" "[I" ∈ lwg := wu_mem (i := 1557) (by decide +kernel) rfl
theorem kw_1560 : Cond.fieldLink "SignalTableModel" 101 "SignalTableModel" "dealt" "[I" ∈ lwg := wu_mem (i := 1560) (by decide +kernel) rfl
theorem kw_1563 : Cond.fieldLink "SignalTableModel" 104 "SignalTableModel" "cardAt" "[I" ∈ lwg := wu_mem (i := 1563) (by decide +kernel) rfl
theorem kw_1564 : Cond.fieldLink "SignalTableModel" 107 "SignalTableModel" "whoAt" "[I" ∈ lwg := wu_mem (i := 1564) (by decide +kernel) rfl
theorem kw_1565 : Cond.fieldLink "SignalTableModel" 110 "SignalTableModel" "row" "[I" ∈ lwg := wu_mem (i := 1565) (by decide +kernel) rfl
theorem kw_1566 : Cond.fieldLink "SignalTableModel" 113 "SignalTableModel" "trial" "[I" ∈ lwg := wu_mem (i := 1566) (by decide +kernel) rfl
theorem kw_1570 : Cond.fieldLink "SignalTableModel" 116 "SignalTableModel" "other" "[I" ∈ lwg := wu_mem (i := 1570) (by decide +kernel) rfl
theorem kw_1571 : Cond.fieldLink "SignalTableModel" 119 "SignalTableModel" "knownOf" "[I" ∈ lwg := wu_mem (i := 1571) (by decide +kernel) rfl
theorem kw_1572 : Cond.fieldLink "SignalTableModel" 122 "SignalTableModel" "needs" "[I" ∈ lwg := wu_mem (i := 1572) (by decide +kernel) rfl
theorem kw_1576 : Cond.fieldLink "SignalTableModel" 125 "SignalTableModel" "applying" "[I" ∈ lwg := wu_mem (i := 1576) (by decide +kernel) rfl
theorem kw_1577 : Cond.fieldLink "SignalTableModel" 128 "SignalTableModel" "surely" "[I" ∈ lwg := wu_mem (i := 1577) (by decide +kernel) rfl
theorem kw_1578 : Cond.fieldLink "SignalTableModel" 132 "SignalTableModel" "waysBy" "[I" ∈ lwg := wu_mem (i := 1578) (by decide +kernel) rfl
theorem kw_1579 : Cond.fieldLink "SignalTableModel" 136 "SignalTableModel" "table" "[B" ∈ lwg := wu_mem (i := 1579) (by decide +kernel) rfl
theorem kw_1580 : Cond.fieldLink "SignalTableModel" 139 "SignalTableModel" "has" "[I" ∈ lwg := wu_mem (i := 1580) (by decide +kernel) rfl
theorem kw_1581 : Cond.fieldLink "SignalTableModel" 142 "SignalTableModel" "cardOf" "[I" ∈ lwg := wu_mem (i := 1581) (by decide +kernel) rfl
theorem kw_1582 : Cond.fieldLink "SignalTableModel" 145 "SignalTableModel" "mask" "[I" ∈ lwg := wu_mem (i := 1582) (by decide +kernel) rfl
theorem kw_1584 : Cond.fieldLink "SignalTableModel" 148 "SignalTableModel" "lyingAt" "[I" ∈ lwg := wu_mem (i := 1584) (by decide +kernel) rfl
theorem kw_1586 : Cond.fieldLink "SignalTableModel" 151 "SignalTableModel" "tried" "[I" ∈ lwg := wu_mem (i := 1586) (by decide +kernel) rfl
theorem kw_1587 : Cond.fieldLink "SignalTableModel" 154 "SignalTableModel" "at" "[I" ∈ lwg := wu_mem (i := 1587) (by decide +kernel) rfl
theorem kw_1588 : Cond.fieldLink "SignalTableModel" 157 "SignalTableModel" "found" "[I" ∈ lwg := wu_mem (i := 1588) (by decide +kernel) rfl
theorem kw_1589 : Cond.fieldLink "SignalTableModel" 160 "SignalTableModel" "sumOf" "[J" ∈ lwg := wu_mem (i := 1589) (by decide +kernel) rfl
theorem kw_1590 : Cond.fieldLink "SignalTableModel" 163 "SignalTableModel" "leastOf" "[I" ∈ lwg := wu_mem (i := 1590) (by decide +kernel) rfl
theorem kw_1591 : Cond.fieldLink "SignalTableModel" 166 "SignalTableModel" "spreadOf" "[I" ∈ lwg := wu_mem (i := 1591) (by decide +kernel) rfl
theorem kw_1595 : Cond.fieldLink "SignalTableModel" 169 "SignalTableModel" "wasHands" "[I" ∈ lwg := wu_mem (i := 1595) (by decide +kernel) rfl
theorem kw_1598 : Cond.fieldLink "SignalTableModel" 172 "SignalTableModel" "wasCards" "[I" ∈ lwg := wu_mem (i := 1598) (by decide +kernel) rfl
theorem kw_1599 : Cond.fieldLink "SignalTableModel" 175 "SignalTableModel" "wasWho" "[I" ∈ lwg := wu_mem (i := 1599) (by decide +kernel) rfl
theorem kw_1601 : Cond.fieldLink "SignalTableModel" 178 "SignalTableModel" "bookApplied" "[I" ∈ lwg := wu_mem (i := 1601) (by decide +kernel) rfl
theorem kw_1602 : Cond.fieldLink "SignalTableModel" 181 "SignalTableModel" "bookLies" "[I" ∈ lwg := wu_mem (i := 1602) (by decide +kernel) rfl
theorem kw_1603 : Cond.fieldLink "SignalTableModel" 184 "SignalTableModel" "isHeld" "[Z" ∈ lwg := wu_mem (i := 1603) (by decide +kernel) rfl
theorem kw_1604 : Cond.fieldLink "SignalTableModel" 187 "SignalTableModel" "heldHands" "[I" ∈ lwg := wu_mem (i := 1604) (by decide +kernel) rfl
theorem kw_1605 : Cond.fieldLink "SignalTableModel" 190 "SignalTableModel" "heldLeader" "[I" ∈ lwg := wu_mem (i := 1605) (by decide +kernel) rfl
theorem kw_1606 : Cond.fieldLink "SignalTableModel" 193 "SignalTableModel" "heldPlayed" "[I" ∈ lwg := wu_mem (i := 1606) (by decide +kernel) rfl
theorem kw_1607 : Cond.fieldLink "SignalTableModel" 196 "SignalTableModel" "heldCards" "[I" ∈ lwg := wu_mem (i := 1607) (by decide +kernel) rfl
theorem kw_1608 : Cond.fieldLink "SignalTableModel" 199 "SignalTableModel" "heldWho" "[I" ∈ lwg := wu_mem (i := 1608) (by decide +kernel) rfl
theorem kw_1800 : Cond.arrayClass .boolean ∈ lwg := wu_mem (i := 1800) (by decide +kernel) rfl
theorem caS_SignalTableModel_218 : CaS "SignalTableModel" 218 yX12_appends cX12_appends 3 (some .long) 2 := ⟨kw_1511, kw_1512, kw_171, kw_1513, by decide +kernel, by decide +kernel, by decide +kernel⟩
theorem caS_SignalTableModel_202 : CaS "SignalTableModel" 202 yX12_word cX12_word 7 (some .long) 7 := ⟨kw_1508, kw_1509, kw_171, kw_1510, by decide +kernel, by decide +kernel, by decide +kernel⟩
theorem dX12_appends_0 : decode cX12_appends 0 = .ok (.iload_n 2, 1) := by decide +kernel
theorem dX12_appends_1 : decode cX12_appends 1 = .ok (.ifCond .ne 7, 3) := by decide +kernel
theorem dX12_appends_4 : decode cX12_appends 4 = .ok (.lload_n 0, 1) := by decide +kernel
theorem dX12_appends_5 : decode cX12_appends 5 = .ok (.goto 16, 3) := by decide +kernel
theorem dX12_appends_8 : decode cX12_appends 8 = .ok (.ldc2_w 216, 3) := by decide +kernel
theorem dX12_appends_11 : decode cX12_appends 11 = .ok (.lload_n 0, 1) := by decide +kernel
theorem dX12_appends_12 : decode cX12_appends 12 = .ok (.lmul, 1) := by decide +kernel
theorem dX12_appends_13 : decode cX12_appends 13 = .ok (.iload_n 2, 1) := by decide +kernel
theorem dX12_appends_14 : decode cX12_appends 14 = .ok (.bipush 97, 2) := by decide +kernel
theorem dX12_appends_16 : decode cX12_appends 16 = .ok (.isub, 1) := by decide +kernel
theorem dX12_appends_17 : decode cX12_appends 17 = .ok (.iconst 1, 1) := by decide +kernel
theorem dX12_appends_18 : decode cX12_appends 18 = .ok (.iadd, 1) := by decide +kernel
theorem dX12_appends_19 : decode cX12_appends 19 = .ok (.i2l, 1) := by decide +kernel
theorem dX12_appends_20 : decode cX12_appends 20 = .ok (.ladd, 1) := by decide +kernel
theorem dX12_appends_21 : decode cX12_appends 21 = .ok (.lreturn, 1) := by decide +kernel
theorem dX12_init_0 : decode cX12_init 0 = .ok (.aload_n 0, 1) := by decide +kernel
theorem dX12_init_1 : decode cX12_init 1 = .ok (.invokespecial 7, 3) := by decide +kernel
theorem dX12_init_4 : decode cX12_init 4 = .ok (.aload_n 0, 1) := by decide +kernel
theorem dX12_init_5 : decode cX12_init 5 = .ok (.sipush 2000, 3) := by decide +kernel
theorem dX12_init_8 : decode cX12_init 8 = .ok (.newarray .byte, 2) := by decide +kernel
theorem dX12_init_10 : decode cX12_init 10 = .ok (.putfield 13, 3) := by decide +kernel
theorem dX12_init_13 : decode cX12_init 13 = .ok (.aload_n 0, 1) := by decide +kernel
theorem dX12_init_14 : decode cX12_init 14 = .ok (.sipush 2000, 3) := by decide +kernel
theorem dX12_init_17 : decode cX12_init 17 = .ok (.newarray .byte, 2) := by decide +kernel
theorem dX12_init_19 : decode cX12_init 19 = .ok (.putfield 17, 3) := by decide +kernel
theorem dX12_init_22 : decode cX12_init 22 = .ok (.aload_n 0, 1) := by decide +kernel
theorem dX12_init_23 : decode cX12_init 23 = .ok (.sipush 403, 3) := by decide +kernel
theorem dX12_init_26 : decode cX12_init 26 = .ok (.newarray .int, 2) := by decide +kernel
theorem dX12_init_28 : decode cX12_init 28 = .ok (.putfield 20, 3) := by decide +kernel
theorem dX12_init_31 : decode cX12_init 31 = .ok (.aload_n 0, 1) := by decide +kernel
theorem dX12_init_32 : decode cX12_init 32 = .ok (.sipush 403, 3) := by decide +kernel
theorem dX12_init_35 : decode cX12_init 35 = .ok (.newarray .int, 2) := by decide +kernel
theorem dX12_init_37 : decode cX12_init 37 = .ok (.putfield 24, 3) := by decide +kernel
theorem dX12_init_40 : decode cX12_init 40 = .ok (.aload_n 0, 1) := by decide +kernel
theorem dX12_init_41 : decode cX12_init 41 = .ok (.sipush 403, 3) := by decide +kernel
theorem dX12_init_44 : decode cX12_init 44 = .ok (.newarray .int, 2) := by decide +kernel
theorem dX12_init_46 : decode cX12_init 46 = .ok (.putfield 27, 3) := by decide +kernel
theorem dX12_init_49 : decode cX12_init 49 = .ok (.aload_n 0, 1) := by decide +kernel
theorem dX12_init_50 : decode cX12_init 50 = .ok (.sipush 403, 3) := by decide +kernel
theorem dX12_init_53 : decode cX12_init 53 = .ok (.newarray .long, 2) := by decide +kernel
theorem dX12_init_55 : decode cX12_init 55 = .ok (.putfield 30, 3) := by decide +kernel
theorem dX12_init_58 : decode cX12_init 58 = .ok (.aload_n 0, 1) := by decide +kernel
theorem dX12_init_59 : decode cX12_init 59 = .ok (.bipush 22, 2) := by decide +kernel
theorem dX12_init_61 : decode cX12_init 61 = .ok (.newarray .long, 2) := by decide +kernel
theorem dX12_init_63 : decode cX12_init 63 = .ok (.putfield 34, 3) := by decide +kernel
theorem dX12_init_66 : decode cX12_init 66 = .ok (.aload_n 0, 1) := by decide +kernel
theorem dX12_init_67 : decode cX12_init 67 = .ok (.iconst (-1), 1) := by decide +kernel
theorem dX12_init_68 : decode cX12_init 68 = .ok (.putfield 37, 3) := by decide +kernel
theorem dX12_init_71 : decode cX12_init 71 = .ok (.aload_n 0, 1) := by decide +kernel
theorem dX12_init_72 : decode cX12_init 72 = .ok (.bipush 6, 2) := by decide +kernel
theorem dX12_init_74 : decode cX12_init 74 = .ok (.newarray .long, 2) := by decide +kernel
theorem dX12_init_76 : decode cX12_init 76 = .ok (.putfield 40, 3) := by decide +kernel
theorem dX12_init_79 : decode cX12_init 79 = .ok (.aload_n 0, 1) := by decide +kernel
theorem dX12_init_80 : decode cX12_init 80 = .ok (.iconst 2, 1) := by decide +kernel
theorem dX12_init_81 : decode cX12_init 81 = .ok (.newarray .int, 2) := by decide +kernel
theorem dX12_init_83 : decode cX12_init 83 = .ok (.putfield 43, 3) := by decide +kernel
theorem dX12_init_86 : decode cX12_init 86 = .ok (.aload_n 0, 1) := by decide +kernel
theorem dX12_init_87 : decode cX12_init 87 = .ok (.iconst 2, 1) := by decide +kernel
theorem dX12_init_88 : decode cX12_init 88 = .ok (.newarray .int, 2) := by decide +kernel
theorem dX12_init_90 : decode cX12_init 90 = .ok (.putfield 46, 3) := by decide +kernel
theorem dX12_init_93 : decode cX12_init 93 = .ok (.aload_n 0, 1) := by decide +kernel
theorem dX12_init_94 : decode cX12_init 94 = .ok (.iconst 2, 1) := by decide +kernel
theorem dX12_init_95 : decode cX12_init 95 = .ok (.newarray .int, 2) := by decide +kernel
theorem dX12_init_97 : decode cX12_init 97 = .ok (.putfield 49, 3) := by decide +kernel
theorem dX12_init_100 : decode cX12_init 100 = .ok (.aload_n 0, 1) := by decide +kernel
theorem dX12_init_101 : decode cX12_init 101 = .ok (.iconst 2, 1) := by decide +kernel
theorem dX12_init_102 : decode cX12_init 102 = .ok (.newarray .int, 2) := by decide +kernel
theorem dX12_init_104 : decode cX12_init 104 = .ok (.putfield 52, 3) := by decide +kernel
theorem dX12_init_107 : decode cX12_init 107 = .ok (.aload_n 0, 1) := by decide +kernel
theorem dX12_init_108 : decode cX12_init 108 = .ok (.bipush 12, 2) := by decide +kernel
theorem dX12_init_110 : decode cX12_init 110 = .ok (.newarray .int, 2) := by decide +kernel
theorem dX12_init_112 : decode cX12_init 112 = .ok (.putfield 55, 3) := by decide +kernel
theorem dX12_init_115 : decode cX12_init 115 = .ok (.aload_n 0, 1) := by decide +kernel
theorem dX12_init_116 : decode cX12_init 116 = .ok (.bipush 12, 2) := by decide +kernel
theorem dX12_init_118 : decode cX12_init 118 = .ok (.newarray .int, 2) := by decide +kernel
theorem dX12_init_120 : decode cX12_init 120 = .ok (.putfield 58, 3) := by decide +kernel
theorem dX12_init_123 : decode cX12_init 123 = .ok (.aload_n 0, 1) := by decide +kernel
theorem dX12_init_124 : decode cX12_init 124 = .ok (.bipush 24, 2) := by decide +kernel
theorem dX12_init_126 : decode cX12_init 126 = .ok (.newarray .int, 2) := by decide +kernel
theorem dX12_init_128 : decode cX12_init 128 = .ok (.putfield 61, 3) := by decide +kernel
theorem dX12_init_131 : decode cX12_init 131 = .ok (.aload_n 0, 1) := by decide +kernel
theorem dX12_init_132 : decode cX12_init 132 = .ok (.bipush 24, 2) := by decide +kernel
theorem dX12_init_134 : decode cX12_init 134 = .ok (.newarray .int, 2) := by decide +kernel
theorem dX12_init_136 : decode cX12_init 136 = .ok (.putfield 64, 3) := by decide +kernel
theorem dX12_init_139 : decode cX12_init 139 = .ok (.aload_n 0, 1) := by decide +kernel
theorem dX12_init_140 : decode cX12_init 140 = .ok (.sipush 300, 3) := by decide +kernel
theorem dX12_init_143 : decode cX12_init 143 = .ok (.newarray .int, 2) := by decide +kernel
theorem dX12_init_145 : decode cX12_init 145 = .ok (.putfield 67, 3) := by decide +kernel
theorem dX12_init_148 : decode cX12_init 148 = .ok (.aload_n 0, 1) := by decide +kernel
theorem dX12_init_149 : decode cX12_init 149 = .ok (.sipush 300, 3) := by decide +kernel
theorem dX12_init_152 : decode cX12_init 152 = .ok (.newarray .boolean, 2) := by decide +kernel
theorem dX12_init_154 : decode cX12_init 154 = .ok (.putfield 70, 3) := by decide +kernel
theorem dX12_init_157 : decode cX12_init 157 = .ok (.aload_n 0, 1) := by decide +kernel
theorem dX12_init_158 : decode cX12_init 158 = .ok (.sipush 300, 3) := by decide +kernel
theorem dX12_init_161 : decode cX12_init 161 = .ok (.newarray .boolean, 2) := by decide +kernel
theorem dX12_init_163 : decode cX12_init 163 = .ok (.putfield 74, 3) := by decide +kernel
theorem dX12_init_166 : decode cX12_init 166 = .ok (.aload_n 0, 1) := by decide +kernel
theorem dX12_init_167 : decode cX12_init 167 = .ok (.sipush 300, 3) := by decide +kernel
theorem dX12_init_170 : decode cX12_init 170 = .ok (.newarray .int, 2) := by decide +kernel
theorem dX12_init_172 : decode cX12_init 172 = .ok (.putfield 77, 3) := by decide +kernel
theorem dX12_init_175 : decode cX12_init 175 = .ok (.aload_n 0, 1) := by decide +kernel
theorem dX12_init_176 : decode cX12_init 176 = .ok (.sipush 300, 3) := by decide +kernel
theorem dX12_init_179 : decode cX12_init 179 = .ok (.newarray .int, 2) := by decide +kernel
theorem dX12_init_181 : decode cX12_init 181 = .ok (.putfield 80, 3) := by decide +kernel
theorem dX12_init_184 : decode cX12_init 184 = .ok (.aload_n 0, 1) := by decide +kernel
theorem dX12_init_185 : decode cX12_init 185 = .ok (.sipush 300, 3) := by decide +kernel
theorem dX12_init_188 : decode cX12_init 188 = .ok (.newarray .int, 2) := by decide +kernel
theorem dX12_init_190 : decode cX12_init 190 = .ok (.putfield 83, 3) := by decide +kernel
theorem dX12_init_193 : decode cX12_init 193 = .ok (.aload_n 0, 1) := by decide +kernel
theorem dX12_init_194 : decode cX12_init 194 = .ok (.sipush 840, 3) := by decide +kernel
theorem dX12_init_197 : decode cX12_init 197 = .ok (.newarray .int, 2) := by decide +kernel
theorem dX12_init_199 : decode cX12_init 199 = .ok (.putfield 86, 3) := by decide +kernel
theorem dX12_init_202 : decode cX12_init 202 = .ok (.aload_n 0, 1) := by decide +kernel
theorem dX12_init_203 : decode cX12_init 203 = .ok (.sipush 840, 3) := by decide +kernel
theorem dX12_init_206 : decode cX12_init 206 = .ok (.newarray .int, 2) := by decide +kernel
theorem dX12_init_208 : decode cX12_init 208 = .ok (.putfield 89, 3) := by decide +kernel
theorem dX12_init_211 : decode cX12_init 211 = .ok (.aload_n 0, 1) := by decide +kernel
theorem dX12_init_212 : decode cX12_init 212 = .ok (.bipush 64, 2) := by decide +kernel
theorem dX12_init_214 : decode cX12_init 214 = .ok (.newarray .int, 2) := by decide +kernel
theorem dX12_init_216 : decode cX12_init 216 = .ok (.putfield 92, 3) := by decide +kernel
theorem dX12_init_219 : decode cX12_init 219 = .ok (.aload_n 0, 1) := by decide +kernel
theorem dX12_init_220 : decode cX12_init 220 = .ok (.bipush 14, 2) := by decide +kernel
theorem dX12_init_222 : decode cX12_init 222 = .ok (.newarray .int, 2) := by decide +kernel
theorem dX12_init_224 : decode cX12_init 224 = .ok (.putfield 95, 3) := by decide +kernel
theorem dX12_init_227 : decode cX12_init 227 = .ok (.aload_n 0, 1) := by decide +kernel
theorem dX12_init_228 : decode cX12_init 228 = .ok (.sipush 400, 3) := by decide +kernel
theorem dX12_init_231 : decode cX12_init 231 = .ok (.newarray .int, 2) := by decide +kernel
theorem dX12_init_233 : decode cX12_init 233 = .ok (.putfield 98, 3) := by decide +kernel
theorem dX12_init_236 : decode cX12_init 236 = .ok (.aload_n 0, 1) := by decide +kernel
theorem dX12_init_237 : decode cX12_init 237 = .ok (.iconst 4, 1) := by decide +kernel
theorem dX12_init_238 : decode cX12_init 238 = .ok (.newarray .int, 2) := by decide +kernel
theorem dX12_init_240 : decode cX12_init 240 = .ok (.putfield 101, 3) := by decide +kernel
theorem dX12_init_243 : decode cX12_init 243 = .ok (.aload_n 0, 1) := by decide +kernel
theorem dX12_init_244 : decode cX12_init 244 = .ok (.bipush 16, 2) := by decide +kernel
theorem dX12_init_246 : decode cX12_init 246 = .ok (.newarray .int, 2) := by decide +kernel
theorem dX12_init_248 : decode cX12_init 248 = .ok (.putfield 104, 3) := by decide +kernel
theorem dX12_init_251 : decode cX12_init 251 = .ok (.aload_n 0, 1) := by decide +kernel
theorem dX12_init_252 : decode cX12_init 252 = .ok (.bipush 16, 2) := by decide +kernel
theorem dX12_init_254 : decode cX12_init 254 = .ok (.newarray .int, 2) := by decide +kernel
theorem dX12_init_256 : decode cX12_init 256 = .ok (.putfield 107, 3) := by decide +kernel
theorem dX12_init_259 : decode cX12_init 259 = .ok (.aload_n 0, 1) := by decide +kernel
theorem dX12_init_260 : decode cX12_init 260 = .ok (.bipush 16, 2) := by decide +kernel
theorem dX12_init_262 : decode cX12_init 262 = .ok (.newarray .int, 2) := by decide +kernel
theorem dX12_init_264 : decode cX12_init 264 = .ok (.putfield 110, 3) := by decide +kernel
theorem dX12_init_267 : decode cX12_init 267 = .ok (.aload_n 0, 1) := by decide +kernel
theorem dX12_init_268 : decode cX12_init 268 = .ok (.iconst 4, 1) := by decide +kernel
theorem dX12_init_269 : decode cX12_init 269 = .ok (.newarray .int, 2) := by decide +kernel
theorem dX12_init_271 : decode cX12_init 271 = .ok (.putfield 113, 3) := by decide +kernel
theorem dX12_init_274 : decode cX12_init 274 = .ok (.aload_n 0, 1) := by decide +kernel
theorem dX12_init_275 : decode cX12_init 275 = .ok (.iconst 3, 1) := by decide +kernel
theorem dX12_init_276 : decode cX12_init 276 = .ok (.newarray .int, 2) := by decide +kernel
theorem dX12_init_278 : decode cX12_init 278 = .ok (.putfield 116, 3) := by decide +kernel
theorem dX12_init_281 : decode cX12_init 281 = .ok (.aload_n 0, 1) := by decide +kernel
theorem dX12_init_282 : decode cX12_init 282 = .ok (.iconst 3, 1) := by decide +kernel
theorem dX12_init_283 : decode cX12_init 283 = .ok (.newarray .int, 2) := by decide +kernel
theorem dX12_init_285 : decode cX12_init 285 = .ok (.putfield 119, 3) := by decide +kernel
theorem dX12_init_288 : decode cX12_init 288 = .ok (.aload_n 0, 1) := by decide +kernel
theorem dX12_init_289 : decode cX12_init 289 = .ok (.iconst 3, 1) := by decide +kernel
theorem dX12_init_290 : decode cX12_init 290 = .ok (.newarray .int, 2) := by decide +kernel
theorem dX12_init_292 : decode cX12_init 292 = .ok (.putfield 122, 3) := by decide +kernel
theorem dX12_init_295 : decode cX12_init 295 = .ok (.aload_n 0, 1) := by decide +kernel
theorem dX12_init_296 : decode cX12_init 296 = .ok (.bipush 16, 2) := by decide +kernel
theorem dX12_init_298 : decode cX12_init 298 = .ok (.newarray .int, 2) := by decide +kernel
theorem dX12_init_300 : decode cX12_init 300 = .ok (.putfield 125, 3) := by decide +kernel
theorem dX12_init_303 : decode cX12_init 303 = .ok (.aload_n 0, 1) := by decide +kernel
theorem dX12_init_304 : decode cX12_init 304 = .ok (.iconst 4, 1) := by decide +kernel
theorem dX12_init_305 : decode cX12_init 305 = .ok (.newarray .int, 2) := by decide +kernel
theorem dX12_init_307 : decode cX12_init 307 = .ok (.putfield 128, 3) := by decide +kernel
theorem dX12_init_310 : decode cX12_init 310 = .ok (.aload_n 0, 1) := by decide +kernel
theorem dX12_init_311 : decode cX12_init 311 = .ok (.ldc 131, 2) := by decide +kernel
theorem dX12_init_313 : decode cX12_init 313 = .ok (.newarray .int, 2) := by decide +kernel
theorem dX12_init_315 : decode cX12_init 315 = .ok (.putfield 132, 3) := by decide +kernel
theorem dX12_init_318 : decode cX12_init 318 = .ok (.aload_n 0, 1) := by decide +kernel
theorem dX12_init_319 : decode cX12_init 319 = .ok (.ldc 135, 2) := by decide +kernel
theorem dX12_init_321 : decode cX12_init 321 = .ok (.newarray .byte, 2) := by decide +kernel
theorem dX12_init_323 : decode cX12_init 323 = .ok (.putfield 136, 3) := by decide +kernel
theorem dX12_init_326 : decode cX12_init 326 = .ok (.aload_n 0, 1) := by decide +kernel
theorem dX12_init_327 : decode cX12_init 327 = .ok (.iconst 4, 1) := by decide +kernel
theorem dX12_init_328 : decode cX12_init 328 = .ok (.newarray .int, 2) := by decide +kernel
theorem dX12_init_330 : decode cX12_init 330 = .ok (.putfield 139, 3) := by decide +kernel
theorem dX12_init_333 : decode cX12_init 333 = .ok (.aload_n 0, 1) := by decide +kernel
theorem dX12_init_334 : decode cX12_init 334 = .ok (.bipush 16, 2) := by decide +kernel
theorem dX12_init_336 : decode cX12_init 336 = .ok (.newarray .int, 2) := by decide +kernel
theorem dX12_init_338 : decode cX12_init 338 = .ok (.putfield 142, 3) := by decide +kernel
theorem dX12_init_341 : decode cX12_init 341 = .ok (.aload_n 0, 1) := by decide +kernel
theorem dX12_init_342 : decode cX12_init 342 = .ok (.iconst 4, 1) := by decide +kernel
theorem dX12_init_343 : decode cX12_init 343 = .ok (.newarray .int, 2) := by decide +kernel
theorem dX12_init_345 : decode cX12_init 345 = .ok (.putfield 145, 3) := by decide +kernel
theorem dX12_init_348 : decode cX12_init 348 = .ok (.aload_n 0, 1) := by decide +kernel
theorem dX12_init_349 : decode cX12_init 349 = .ok (.iconst 4, 1) := by decide +kernel
theorem dX12_init_350 : decode cX12_init 350 = .ok (.newarray .int, 2) := by decide +kernel
theorem dX12_init_352 : decode cX12_init 352 = .ok (.putfield 148, 3) := by decide +kernel
theorem dX12_init_355 : decode cX12_init 355 = .ok (.aload_n 0, 1) := by decide +kernel
theorem dX12_init_356 : decode cX12_init 356 = .ok (.iconst 4, 1) := by decide +kernel
theorem dX12_init_357 : decode cX12_init 357 = .ok (.newarray .int, 2) := by decide +kernel
theorem dX12_init_359 : decode cX12_init 359 = .ok (.putfield 151, 3) := by decide +kernel
theorem dX12_init_362 : decode cX12_init 362 = .ok (.aload_n 0, 1) := by decide +kernel
theorem dX12_init_363 : decode cX12_init 363 = .ok (.iconst 4, 1) := by decide +kernel
theorem dX12_init_364 : decode cX12_init 364 = .ok (.newarray .int, 2) := by decide +kernel
theorem dX12_init_366 : decode cX12_init 366 = .ok (.putfield 154, 3) := by decide +kernel
theorem dX12_init_369 : decode cX12_init 369 = .ok (.aload_n 0, 1) := by decide +kernel
theorem dX12_init_370 : decode cX12_init 370 = .ok (.iconst 4, 1) := by decide +kernel
theorem dX12_init_371 : decode cX12_init 371 = .ok (.newarray .int, 2) := by decide +kernel
theorem dX12_init_373 : decode cX12_init 373 = .ok (.putfield 157, 3) := by decide +kernel
theorem dX12_init_376 : decode cX12_init 376 = .ok (.aload_n 0, 1) := by decide +kernel
theorem dX12_init_377 : decode cX12_init 377 = .ok (.bipush 16, 2) := by decide +kernel
theorem dX12_init_379 : decode cX12_init 379 = .ok (.newarray .long, 2) := by decide +kernel
theorem dX12_init_381 : decode cX12_init 381 = .ok (.putfield 160, 3) := by decide +kernel
theorem dX12_init_384 : decode cX12_init 384 = .ok (.aload_n 0, 1) := by decide +kernel
theorem dX12_init_385 : decode cX12_init 385 = .ok (.bipush 16, 2) := by decide +kernel
theorem dX12_init_387 : decode cX12_init 387 = .ok (.newarray .int, 2) := by decide +kernel
theorem dX12_init_389 : decode cX12_init 389 = .ok (.putfield 163, 3) := by decide +kernel
theorem dX12_init_392 : decode cX12_init 392 = .ok (.aload_n 0, 1) := by decide +kernel
theorem dX12_init_393 : decode cX12_init 393 = .ok (.bipush 80, 2) := by decide +kernel
theorem dX12_init_395 : decode cX12_init 395 = .ok (.newarray .int, 2) := by decide +kernel
theorem dX12_init_397 : decode cX12_init 397 = .ok (.putfield 166, 3) := by decide +kernel
theorem dX12_init_400 : decode cX12_init 400 = .ok (.aload_n 0, 1) := by decide +kernel
theorem dX12_init_401 : decode cX12_init 401 = .ok (.iconst 4, 1) := by decide +kernel
theorem dX12_init_402 : decode cX12_init 402 = .ok (.newarray .int, 2) := by decide +kernel
theorem dX12_init_404 : decode cX12_init 404 = .ok (.putfield 169, 3) := by decide +kernel
theorem dX12_init_407 : decode cX12_init 407 = .ok (.aload_n 0, 1) := by decide +kernel
theorem dX12_init_408 : decode cX12_init 408 = .ok (.bipush 16, 2) := by decide +kernel
theorem dX12_init_410 : decode cX12_init 410 = .ok (.newarray .int, 2) := by decide +kernel
theorem dX12_init_412 : decode cX12_init 412 = .ok (.putfield 172, 3) := by decide +kernel
theorem dX12_init_415 : decode cX12_init 415 = .ok (.aload_n 0, 1) := by decide +kernel
theorem dX12_init_416 : decode cX12_init 416 = .ok (.bipush 16, 2) := by decide +kernel
theorem dX12_init_418 : decode cX12_init 418 = .ok (.newarray .int, 2) := by decide +kernel
theorem dX12_init_420 : decode cX12_init 420 = .ok (.putfield 175, 3) := by decide +kernel
theorem dX12_init_423 : decode cX12_init 423 = .ok (.aload_n 0, 1) := by decide +kernel
theorem dX12_init_424 : decode cX12_init 424 = .ok (.bipush 48, 2) := by decide +kernel
theorem dX12_init_426 : decode cX12_init 426 = .ok (.newarray .int, 2) := by decide +kernel
theorem dX12_init_428 : decode cX12_init 428 = .ok (.putfield 178, 3) := by decide +kernel
theorem dX12_init_431 : decode cX12_init 431 = .ok (.aload_n 0, 1) := by decide +kernel
theorem dX12_init_432 : decode cX12_init 432 = .ok (.bipush 48, 2) := by decide +kernel
theorem dX12_init_434 : decode cX12_init 434 = .ok (.newarray .int, 2) := by decide +kernel
theorem dX12_init_436 : decode cX12_init 436 = .ok (.putfield 181, 3) := by decide +kernel
theorem dX12_init_439 : decode cX12_init 439 = .ok (.aload_n 0, 1) := by decide +kernel
theorem dX12_init_440 : decode cX12_init 440 = .ok (.iconst 2, 1) := by decide +kernel
theorem dX12_init_441 : decode cX12_init 441 = .ok (.newarray .boolean, 2) := by decide +kernel
theorem dX12_init_443 : decode cX12_init 443 = .ok (.putfield 184, 3) := by decide +kernel
theorem dX12_init_446 : decode cX12_init 446 = .ok (.aload_n 0, 1) := by decide +kernel
theorem dX12_init_447 : decode cX12_init 447 = .ok (.bipush 8, 2) := by decide +kernel
theorem dX12_init_449 : decode cX12_init 449 = .ok (.newarray .int, 2) := by decide +kernel
theorem dX12_init_451 : decode cX12_init 451 = .ok (.putfield 187, 3) := by decide +kernel
theorem dX12_init_454 : decode cX12_init 454 = .ok (.aload_n 0, 1) := by decide +kernel
theorem dX12_init_455 : decode cX12_init 455 = .ok (.iconst 2, 1) := by decide +kernel
theorem dX12_init_456 : decode cX12_init 456 = .ok (.newarray .int, 2) := by decide +kernel
theorem dX12_init_458 : decode cX12_init 458 = .ok (.putfield 190, 3) := by decide +kernel
theorem dX12_init_461 : decode cX12_init 461 = .ok (.aload_n 0, 1) := by decide +kernel
theorem dX12_init_462 : decode cX12_init 462 = .ok (.iconst 2, 1) := by decide +kernel
theorem dX12_init_463 : decode cX12_init 463 = .ok (.newarray .int, 2) := by decide +kernel
theorem dX12_init_465 : decode cX12_init 465 = .ok (.putfield 193, 3) := by decide +kernel
theorem dX12_init_468 : decode cX12_init 468 = .ok (.aload_n 0, 1) := by decide +kernel
theorem dX12_init_469 : decode cX12_init 469 = .ok (.bipush 32, 2) := by decide +kernel
theorem dX12_init_471 : decode cX12_init 471 = .ok (.newarray .int, 2) := by decide +kernel
theorem dX12_init_473 : decode cX12_init 473 = .ok (.putfield 196, 3) := by decide +kernel
theorem dX12_init_476 : decode cX12_init 476 = .ok (.aload_n 0, 1) := by decide +kernel
theorem dX12_init_477 : decode cX12_init 477 = .ok (.bipush 32, 2) := by decide +kernel
theorem dX12_init_479 : decode cX12_init 479 = .ok (.newarray .int, 2) := by decide +kernel
theorem dX12_init_481 : decode cX12_init 481 = .ok (.putfield 199, 3) := by decide +kernel
theorem dX12_init_484 : decode cX12_init 484 = .ok (.aload_n 0, 1) := by decide +kernel
theorem dX12_init_485 : decode cX12_init 485 = .ok (.getfield 43, 3) := by decide +kernel
theorem dX12_init_488 : decode cX12_init 488 = .ok (.iconst 0, 1) := by decide +kernel
theorem dX12_init_489 : decode cX12_init 489 = .ok (.iconst 4, 1) := by decide +kernel
theorem dX12_init_490 : decode cX12_init 490 = .ok (.iastore, 1) := by decide +kernel
theorem dX12_init_491 : decode cX12_init 491 = .ok (.aload_n 0, 1) := by decide +kernel
theorem dX12_init_492 : decode cX12_init 492 = .ok (.getfield 46, 3) := by decide +kernel
theorem dX12_init_495 : decode cX12_init 495 = .ok (.iconst 0, 1) := by decide +kernel
theorem dX12_init_496 : decode cX12_init 496 = .ok (.iconst 4, 1) := by decide +kernel
theorem dX12_init_497 : decode cX12_init 497 = .ok (.iastore, 1) := by decide +kernel
theorem dX12_init_498 : decode cX12_init 498 = .ok (.aload_n 0, 1) := by decide +kernel
theorem dX12_init_499 : decode cX12_init 499 = .ok (.getfield 49, 3) := by decide +kernel
theorem dX12_init_502 : decode cX12_init 502 = .ok (.iconst 0, 1) := by decide +kernel
theorem dX12_init_503 : decode cX12_init 503 = .ok (.iconst (-1), 1) := by decide +kernel
theorem dX12_init_504 : decode cX12_init 504 = .ok (.iastore, 1) := by decide +kernel
theorem dX12_init_505 : decode cX12_init 505 = .ok (.aload_n 0, 1) := by decide +kernel
theorem dX12_init_506 : decode cX12_init 506 = .ok (.getfield 34, 3) := by decide +kernel
theorem dX12_init_509 : decode cX12_init 509 = .ok (.iconst 0, 1) := by decide +kernel
theorem dX12_init_510 : decode cX12_init 510 = .ok (.bipush 112, 2) := by decide +kernel
theorem dX12_init_512 : decode cX12_init 512 = .ok (.bipush 97, 2) := by decide +kernel
theorem dX12_init_514 : decode cX12_init 514 = .ok (.bipush 99, 2) := by decide +kernel
theorem dX12_init_516 : decode cX12_init 516 = .ok (.bipush 107, 2) := by decide +kernel
theorem dX12_init_518 : decode cX12_init 518 = .ok (.iconst 0, 1) := by decide +kernel
theorem dX12_init_519 : decode cX12_init 519 = .ok (.iconst 0, 1) := by decide +kernel
theorem dX12_init_520 : decode cX12_init 520 = .ok (.iconst 0, 1) := by decide +kernel
theorem dX12_init_521 : decode cX12_init 521 = .ok (.invokestatic 202, 3) := by decide +kernel
theorem dX12_init_524 : decode cX12_init 524 = .ok (.lastore, 1) := by decide +kernel
theorem dX12_init_525 : decode cX12_init 525 = .ok (.aload_n 0, 1) := by decide +kernel
theorem dX12_init_526 : decode cX12_init 526 = .ok (.getfield 34, 3) := by decide +kernel
theorem dX12_init_529 : decode cX12_init 529 = .ok (.iconst 1, 1) := by decide +kernel
theorem dX12_init_530 : decode cX12_init 530 = .ok (.bipush 116, 2) := by decide +kernel
theorem dX12_init_532 : decode cX12_init 532 = .ok (.bipush 114, 2) := by decide +kernel
theorem dX12_init_534 : decode cX12_init 534 = .ok (.bipush 117, 2) := by decide +kernel
theorem dX12_init_536 : decode cX12_init 536 = .ok (.bipush 109, 2) := by decide +kernel
theorem dX12_init_538 : decode cX12_init 538 = .ok (.bipush 112, 2) := by decide +kernel
theorem dX12_init_540 : decode cX12_init 540 = .ok (.iconst 0, 1) := by decide +kernel
theorem dX12_init_541 : decode cX12_init 541 = .ok (.iconst 0, 1) := by decide +kernel
theorem dX12_init_542 : decode cX12_init 542 = .ok (.invokestatic 202, 3) := by decide +kernel
theorem dX12_init_545 : decode cX12_init 545 = .ok (.lastore, 1) := by decide +kernel
theorem dX12_init_546 : decode cX12_init 546 = .ok (.aload_n 0, 1) := by decide +kernel
theorem dX12_init_547 : decode cX12_init 547 = .ok (.getfield 34, 3) := by decide +kernel
theorem dX12_init_550 : decode cX12_init 550 = .ok (.iconst 2, 1) := by decide +kernel
theorem dX12_init_551 : decode cX12_init 551 = .ok (.bipush 99, 2) := by decide +kernel
theorem dX12_init_553 : decode cX12_init 553 = .ok (.bipush 117, 2) := by decide +kernel
theorem dX12_init_555 : decode cX12_init 555 = .ok (.bipush 115, 2) := by decide +kernel
theorem dX12_init_557 : decode cX12_init 557 = .ok (.bipush 116, 2) := by decide +kernel
theorem dX12_init_559 : decode cX12_init 559 = .ok (.bipush 111, 2) := by decide +kernel
theorem dX12_init_561 : decode cX12_init 561 = .ok (.bipush 109, 2) := by decide +kernel
theorem dX12_init_563 : decode cX12_init 563 = .ok (.iconst 0, 1) := by decide +kernel
theorem dX12_init_564 : decode cX12_init 564 = .ok (.invokestatic 202, 3) := by decide +kernel
theorem dX12_init_567 : decode cX12_init 567 = .ok (.lastore, 1) := by decide +kernel
theorem dX12_init_568 : decode cX12_init 568 = .ok (.aload_n 0, 1) := by decide +kernel
theorem dX12_init_569 : decode cX12_init 569 = .ok (.getfield 34, 3) := by decide +kernel
theorem dX12_init_572 : decode cX12_init 572 = .ok (.iconst 3, 1) := by decide +kernel
theorem dX12_init_573 : decode cX12_init 573 = .ok (.bipush 108, 2) := by decide +kernel
theorem dX12_init_575 : decode cX12_init 575 = .ok (.bipush 101, 2) := by decide +kernel
theorem dX12_init_577 : decode cX12_init 577 = .ok (.bipush 97, 2) := by decide +kernel
theorem dX12_init_579 : decode cX12_init 579 = .ok (.bipush 100, 2) := by decide +kernel
theorem dX12_init_581 : decode cX12_init 581 = .ok (.iconst 0, 1) := by decide +kernel
theorem dX12_init_582 : decode cX12_init 582 = .ok (.iconst 0, 1) := by decide +kernel
theorem dX12_init_583 : decode cX12_init 583 = .ok (.iconst 0, 1) := by decide +kernel
theorem dX12_init_584 : decode cX12_init 584 = .ok (.invokestatic 202, 3) := by decide +kernel
theorem dX12_init_587 : decode cX12_init 587 = .ok (.lastore, 1) := by decide +kernel
theorem dX12_init_588 : decode cX12_init 588 = .ok (.aload_n 0, 1) := by decide +kernel
theorem dX12_init_589 : decode cX12_init 589 = .ok (.getfield 34, 3) := by decide +kernel
theorem dX12_init_592 : decode cX12_init 592 = .ok (.iconst 4, 1) := by decide +kernel
theorem dX12_init_593 : decode cX12_init 593 = .ok (.bipush 102, 2) := by decide +kernel
theorem dX12_init_595 : decode cX12_init 595 = .ok (.bipush 111, 2) := by decide +kernel
theorem dX12_init_597 : decode cX12_init 597 = .ok (.bipush 108, 2) := by decide +kernel
theorem dX12_init_599 : decode cX12_init 599 = .ok (.bipush 108, 2) := by decide +kernel
theorem dX12_init_601 : decode cX12_init 601 = .ok (.bipush 111, 2) := by decide +kernel
theorem dX12_init_603 : decode cX12_init 603 = .ok (.bipush 119, 2) := by decide +kernel
theorem dX12_init_605 : decode cX12_init 605 = .ok (.iconst 0, 1) := by decide +kernel
theorem dX12_init_606 : decode cX12_init 606 = .ok (.invokestatic 202, 3) := by decide +kernel
theorem dX12_init_609 : decode cX12_init 609 = .ok (.lastore, 1) := by decide +kernel
theorem dX12_init_610 : decode cX12_init 610 = .ok (.aload_n 0, 1) := by decide +kernel
theorem dX12_init_611 : decode cX12_init 611 = .ok (.getfield 34, 3) := by decide +kernel
theorem dX12_init_614 : decode cX12_init 614 = .ok (.iconst 5, 1) := by decide +kernel
theorem dX12_init_615 : decode cX12_init 615 = .ok (.bipush 100, 2) := by decide +kernel
theorem dX12_init_617 : decode cX12_init 617 = .ok (.bipush 105, 2) := by decide +kernel
theorem dX12_init_619 : decode cX12_init 619 = .ok (.bipush 115, 2) := by decide +kernel
theorem dX12_init_621 : decode cX12_init 621 = .ok (.bipush 99, 2) := by decide +kernel
theorem dX12_init_623 : decode cX12_init 623 = .ok (.bipush 97, 2) := by decide +kernel
theorem dX12_init_625 : decode cX12_init 625 = .ok (.bipush 114, 2) := by decide +kernel
theorem dX12_init_627 : decode cX12_init 627 = .ok (.bipush 100, 2) := by decide +kernel
theorem dX12_init_629 : decode cX12_init 629 = .ok (.invokestatic 202, 3) := by decide +kernel
theorem dX12_init_632 : decode cX12_init 632 = .ok (.lastore, 1) := by decide +kernel
theorem dX12_init_633 : decode cX12_init 633 = .ok (.aload_n 0, 1) := by decide +kernel
theorem dX12_init_634 : decode cX12_init 634 = .ok (.getfield 34, 3) := by decide +kernel
theorem dX12_init_637 : decode cX12_init 637 = .ok (.bipush 6, 2) := by decide +kernel
theorem dX12_init_639 : decode cX12_init 639 = .ok (.bipush 119, 2) := by decide +kernel
theorem dX12_init_641 : decode cX12_init 641 = .ok (.bipush 104, 2) := by decide +kernel
theorem dX12_init_643 : decode cX12_init 643 = .ok (.bipush 101, 2) := by decide +kernel
theorem dX12_init_645 : decode cX12_init 645 = .ok (.bipush 110, 2) := by decide +kernel
theorem dX12_init_647 : decode cX12_init 647 = .ok (.iconst 0, 1) := by decide +kernel
theorem dX12_init_648 : decode cX12_init 648 = .ok (.iconst 0, 1) := by decide +kernel
theorem dX12_init_649 : decode cX12_init 649 = .ok (.iconst 0, 1) := by decide +kernel
theorem dX12_init_650 : decode cX12_init 650 = .ok (.invokestatic 202, 3) := by decide +kernel
theorem dX12_init_653 : decode cX12_init 653 = .ok (.lastore, 1) := by decide +kernel
theorem dX12_init_654 : decode cX12_init 654 = .ok (.aload_n 0, 1) := by decide +kernel
theorem dX12_init_655 : decode cX12_init 655 = .ok (.getfield 34, 3) := by decide +kernel
theorem dX12_init_658 : decode cX12_init 658 = .ok (.bipush 7, 2) := by decide +kernel
theorem dX12_init_660 : decode cX12_init 660 = .ok (.bipush 115, 2) := by decide +kernel
theorem dX12_init_662 : decode cX12_init 662 = .ok (.bipush 97, 2) := by decide +kernel
theorem dX12_init_664 : decode cX12_init 664 = .ok (.bipush 121, 2) := by decide +kernel
theorem dX12_init_666 : decode cX12_init 666 = .ok (.bipush 115, 2) := by decide +kernel
theorem dX12_init_668 : decode cX12_init 668 = .ok (.iconst 0, 1) := by decide +kernel
theorem dX12_init_669 : decode cX12_init 669 = .ok (.iconst 0, 1) := by decide +kernel
theorem dX12_init_670 : decode cX12_init 670 = .ok (.iconst 0, 1) := by decide +kernel
theorem dX12_init_671 : decode cX12_init 671 = .ok (.invokestatic 202, 3) := by decide +kernel
theorem dX12_init_674 : decode cX12_init 674 = .ok (.lastore, 1) := by decide +kernel
theorem dX12_init_675 : decode cX12_init 675 = .ok (.aload_n 0, 1) := by decide +kernel
theorem dX12_init_676 : decode cX12_init 676 = .ok (.getfield 34, 3) := by decide +kernel
theorem dX12_init_679 : decode cX12_init 679 = .ok (.bipush 8, 2) := by decide +kernel
theorem dX12_init_681 : decode cX12_init 681 = .ok (.bipush 111, 2) := by decide +kernel
theorem dX12_init_683 : decode cX12_init 683 = .ok (.bipush 114, 2) := by decide +kernel
theorem dX12_init_685 : decode cX12_init 685 = .ok (.iconst 0, 1) := by decide +kernel
theorem dX12_init_686 : decode cX12_init 686 = .ok (.iconst 0, 1) := by decide +kernel
theorem dX12_init_687 : decode cX12_init 687 = .ok (.iconst 0, 1) := by decide +kernel
theorem dX12_init_688 : decode cX12_init 688 = .ok (.iconst 0, 1) := by decide +kernel
theorem dX12_init_689 : decode cX12_init 689 = .ok (.iconst 0, 1) := by decide +kernel
theorem dX12_init_690 : decode cX12_init 690 = .ok (.invokestatic 202, 3) := by decide +kernel
theorem dX12_init_693 : decode cX12_init 693 = .ok (.lastore, 1) := by decide +kernel
theorem dX12_init_694 : decode cX12_init 694 = .ok (.aload_n 0, 1) := by decide +kernel
theorem dX12_init_695 : decode cX12_init 695 = .ok (.getfield 34, 3) := by decide +kernel
theorem dX12_init_698 : decode cX12_init 698 = .ok (.bipush 9, 2) := by decide +kernel
theorem dX12_init_700 : decode cX12_init 700 = .ok (.bipush 97, 2) := by decide +kernel
theorem dX12_init_702 : decode cX12_init 702 = .ok (.bipush 110, 2) := by decide +kernel
theorem dX12_init_704 : decode cX12_init 704 = .ok (.bipush 100, 2) := by decide +kernel
theorem dX12_init_706 : decode cX12_init 706 = .ok (.iconst 0, 1) := by decide +kernel
theorem dX12_init_707 : decode cX12_init 707 = .ok (.iconst 0, 1) := by decide +kernel
theorem dX12_init_708 : decode cX12_init 708 = .ok (.iconst 0, 1) := by decide +kernel
theorem dX12_init_709 : decode cX12_init 709 = .ok (.iconst 0, 1) := by decide +kernel
theorem dX12_init_710 : decode cX12_init 710 = .ok (.invokestatic 202, 3) := by decide +kernel
theorem dX12_init_713 : decode cX12_init 713 = .ok (.lastore, 1) := by decide +kernel
theorem dX12_init_714 : decode cX12_init 714 = .ok (.aload_n 0, 1) := by decide +kernel
theorem dX12_init_715 : decode cX12_init 715 = .ok (.getfield 34, 3) := by decide +kernel
theorem dX12_init_718 : decode cX12_init 718 = .ok (.bipush 10, 2) := by decide +kernel
theorem dX12_init_720 : decode cX12_init 720 = .ok (.bipush 110, 2) := by decide +kernel
theorem dX12_init_722 : decode cX12_init 722 = .ok (.bipush 111, 2) := by decide +kernel
theorem dX12_init_724 : decode cX12_init 724 = .ok (.bipush 116, 2) := by decide +kernel
theorem dX12_init_726 : decode cX12_init 726 = .ok (.iconst 0, 1) := by decide +kernel
theorem dX12_init_727 : decode cX12_init 727 = .ok (.iconst 0, 1) := by decide +kernel
theorem dX12_init_728 : decode cX12_init 728 = .ok (.iconst 0, 1) := by decide +kernel
theorem dX12_init_729 : decode cX12_init 729 = .ok (.iconst 0, 1) := by decide +kernel
theorem dX12_init_730 : decode cX12_init 730 = .ok (.invokestatic 202, 3) := by decide +kernel
theorem dX12_init_733 : decode cX12_init 733 = .ok (.lastore, 1) := by decide +kernel
theorem dX12_init_734 : decode cX12_init 734 = .ok (.aload_n 0, 1) := by decide +kernel
theorem dX12_init_735 : decode cX12_init 735 = .ok (.getfield 34, 3) := by decide +kernel
theorem dX12_init_738 : decode cX12_init 738 = .ok (.bipush 11, 2) := by decide +kernel
theorem dX12_init_740 : decode cX12_init 740 = .ok (.bipush 115, 2) := by decide +kernel
theorem dX12_init_742 : decode cX12_init 742 = .ok (.bipush 117, 2) := by decide +kernel
theorem dX12_init_744 : decode cX12_init 744 = .ok (.bipush 105, 2) := by decide +kernel
theorem dX12_init_746 : decode cX12_init 746 = .ok (.bipush 116, 2) := by decide +kernel
theorem dX12_init_748 : decode cX12_init 748 = .ok (.iconst 0, 1) := by decide +kernel
theorem dX12_init_749 : decode cX12_init 749 = .ok (.iconst 0, 1) := by decide +kernel
theorem dX12_init_750 : decode cX12_init 750 = .ok (.iconst 0, 1) := by decide +kernel
theorem dX12_init_751 : decode cX12_init 751 = .ok (.invokestatic 202, 3) := by decide +kernel
theorem dX12_init_754 : decode cX12_init 754 = .ok (.lastore, 1) := by decide +kernel
theorem dX12_init_755 : decode cX12_init 755 = .ok (.aload_n 0, 1) := by decide +kernel
theorem dX12_init_756 : decode cX12_init 756 = .ok (.getfield 34, 3) := by decide +kernel
theorem dX12_init_759 : decode cX12_init 759 = .ok (.bipush 12, 2) := by decide +kernel
theorem dX12_init_761 : decode cX12_init 761 = .ok (.bipush 114, 2) := by decide +kernel
theorem dX12_init_763 : decode cX12_init 763 = .ok (.bipush 97, 2) := by decide +kernel
theorem dX12_init_765 : decode cX12_init 765 = .ok (.bipush 110, 2) := by decide +kernel
theorem dX12_init_767 : decode cX12_init 767 = .ok (.bipush 107, 2) := by decide +kernel
theorem dX12_init_769 : decode cX12_init 769 = .ok (.iconst 0, 1) := by decide +kernel
theorem dX12_init_770 : decode cX12_init 770 = .ok (.iconst 0, 1) := by decide +kernel
theorem dX12_init_771 : decode cX12_init 771 = .ok (.iconst 0, 1) := by decide +kernel
theorem dX12_init_772 : decode cX12_init 772 = .ok (.invokestatic 202, 3) := by decide +kernel
theorem dX12_init_775 : decode cX12_init 775 = .ok (.lastore, 1) := by decide +kernel
theorem dX12_init_776 : decode cX12_init 776 = .ok (.aload_n 0, 1) := by decide +kernel
theorem dX12_init_777 : decode cX12_init 777 = .ok (.getfield 34, 3) := by decide +kernel
theorem dX12_init_780 : decode cX12_init 780 = .ok (.bipush 13, 2) := by decide +kernel
theorem dX12_init_782 : decode cX12_init 782 = .ok (.bipush 108, 2) := by decide +kernel
theorem dX12_init_784 : decode cX12_init 784 = .ok (.bipush 101, 2) := by decide +kernel
theorem dX12_init_786 : decode cX12_init 786 = .ok (.bipush 100, 2) := by decide +kernel
theorem dX12_init_788 : decode cX12_init 788 = .ok (.iconst 0, 1) := by decide +kernel
theorem dX12_init_789 : decode cX12_init 789 = .ok (.iconst 0, 1) := by decide +kernel
theorem dX12_init_790 : decode cX12_init 790 = .ok (.iconst 0, 1) := by decide +kernel
theorem dX12_init_791 : decode cX12_init 791 = .ok (.iconst 0, 1) := by decide +kernel
theorem dX12_init_792 : decode cX12_init 792 = .ok (.invokestatic 202, 3) := by decide +kernel
theorem dX12_init_795 : decode cX12_init 795 = .ok (.lastore, 1) := by decide +kernel
theorem dX12_init_796 : decode cX12_init 796 = .ok (.aload_n 0, 1) := by decide +kernel
theorem dX12_init_797 : decode cX12_init 797 = .ok (.getfield 34, 3) := by decide +kernel
theorem dX12_init_800 : decode cX12_init 800 = .ok (.bipush 14, 2) := by decide +kernel
theorem dX12_init_802 : decode cX12_init 802 = .ok (.bipush 116, 2) := by decide +kernel
theorem dX12_init_804 : decode cX12_init 804 = .ok (.bipush 114, 2) := by decide +kernel
theorem dX12_init_806 : decode cX12_init 806 = .ok (.bipush 105, 2) := by decide +kernel
theorem dX12_init_808 : decode cX12_init 808 = .ok (.bipush 99, 2) := by decide +kernel
theorem dX12_init_810 : decode cX12_init 810 = .ok (.bipush 107, 2) := by decide +kernel
theorem dX12_init_812 : decode cX12_init 812 = .ok (.iconst 0, 1) := by decide +kernel
theorem dX12_init_813 : decode cX12_init 813 = .ok (.iconst 0, 1) := by decide +kernel
theorem dX12_init_814 : decode cX12_init 814 = .ok (.invokestatic 202, 3) := by decide +kernel
theorem dX12_init_817 : decode cX12_init 817 = .ok (.lastore, 1) := by decide +kernel
theorem dX12_init_818 : decode cX12_init 818 = .ok (.aload_n 0, 1) := by decide +kernel
theorem dX12_init_819 : decode cX12_init 819 = .ok (.getfield 34, 3) := by decide +kernel
theorem dX12_init_822 : decode cX12_init 822 = .ok (.bipush 15, 2) := by decide +kernel
theorem dX12_init_824 : decode cX12_init 824 = .ok (.bipush 98, 2) := by decide +kernel
theorem dX12_init_826 : decode cX12_init 826 = .ok (.bipush 101, 2) := by decide +kernel
theorem dX12_init_828 : decode cX12_init 828 = .ok (.bipush 102, 2) := by decide +kernel
theorem dX12_init_830 : decode cX12_init 830 = .ok (.bipush 111, 2) := by decide +kernel
theorem dX12_init_832 : decode cX12_init 832 = .ok (.bipush 114, 2) := by decide +kernel
theorem dX12_init_834 : decode cX12_init 834 = .ok (.bipush 101, 2) := by decide +kernel
theorem dX12_init_836 : decode cX12_init 836 = .ok (.iconst 0, 1) := by decide +kernel
theorem dX12_init_837 : decode cX12_init 837 = .ok (.invokestatic 202, 3) := by decide +kernel
theorem dX12_init_840 : decode cX12_init 840 = .ok (.lastore, 1) := by decide +kernel
theorem dX12_init_841 : decode cX12_init 841 = .ok (.aload_n 0, 1) := by decide +kernel
theorem dX12_init_842 : decode cX12_init 842 = .ok (.getfield 34, 3) := by decide +kernel
theorem dX12_init_845 : decode cX12_init 845 = .ok (.bipush 16, 2) := by decide +kernel
theorem dX12_init_847 : decode cX12_init 847 = .ok (.bipush 104, 2) := by decide +kernel
theorem dX12_init_849 : decode cX12_init 849 = .ok (.bipush 101, 2) := by decide +kernel
theorem dX12_init_851 : decode cX12_init 851 = .ok (.bipush 108, 2) := by decide +kernel
theorem dX12_init_853 : decode cX12_init 853 = .ok (.bipush 100, 2) := by decide +kernel
theorem dX12_init_855 : decode cX12_init 855 = .ok (.iconst 0, 1) := by decide +kernel
theorem dX12_init_856 : decode cX12_init 856 = .ok (.iconst 0, 1) := by decide +kernel
theorem dX12_init_857 : decode cX12_init 857 = .ok (.iconst 0, 1) := by decide +kernel
theorem dX12_init_858 : decode cX12_init 858 = .ok (.invokestatic 202, 3) := by decide +kernel
theorem dX12_init_861 : decode cX12_init 861 = .ok (.lastore, 1) := by decide +kernel
theorem dX12_init_862 : decode cX12_init 862 = .ok (.aload_n 0, 1) := by decide +kernel
theorem dX12_init_863 : decode cX12_init 863 = .ok (.getfield 34, 3) := by decide +kernel
theorem dX12_init_866 : decode cX12_init 866 = .ok (.bipush 17, 2) := by decide +kernel
theorem dX12_init_868 : decode cX12_init 868 = .ok (.bipush 104, 2) := by decide +kernel
theorem dX12_init_870 : decode cX12_init 870 = .ok (.bipush 105, 2) := by decide +kernel
theorem dX12_init_872 : decode cX12_init 872 = .ok (.bipush 103, 2) := by decide +kernel
theorem dX12_init_874 : decode cX12_init 874 = .ok (.bipush 104, 2) := by decide +kernel
theorem dX12_init_876 : decode cX12_init 876 = .ok (.iconst 0, 1) := by decide +kernel
theorem dX12_init_877 : decode cX12_init 877 = .ok (.iconst 0, 1) := by decide +kernel
theorem dX12_init_878 : decode cX12_init 878 = .ok (.iconst 0, 1) := by decide +kernel
theorem dX12_init_879 : decode cX12_init 879 = .ok (.invokestatic 202, 3) := by decide +kernel
theorem dX12_init_882 : decode cX12_init 882 = .ok (.lastore, 1) := by decide +kernel
theorem dX12_init_883 : decode cX12_init 883 = .ok (.aload_n 0, 1) := by decide +kernel
theorem dX12_init_884 : decode cX12_init 884 = .ok (.getfield 34, 3) := by decide +kernel
theorem dX12_init_887 : decode cX12_init 887 = .ok (.bipush 18, 2) := by decide +kernel
theorem dX12_init_889 : decode cX12_init 889 = .ok (.bipush 108, 2) := by decide +kernel
theorem dX12_init_891 : decode cX12_init 891 = .ok (.bipush 111, 2) := by decide +kernel
theorem dX12_init_893 : decode cX12_init 893 = .ok (.bipush 119, 2) := by decide +kernel
theorem dX12_init_895 : decode cX12_init 895 = .ok (.iconst 0, 1) := by decide +kernel
theorem dX12_init_896 : decode cX12_init 896 = .ok (.iconst 0, 1) := by decide +kernel
theorem dX12_init_897 : decode cX12_init 897 = .ok (.iconst 0, 1) := by decide +kernel
theorem dX12_init_898 : decode cX12_init 898 = .ok (.iconst 0, 1) := by decide +kernel
theorem dX12_init_899 : decode cX12_init 899 = .ok (.invokestatic 202, 3) := by decide +kernel
theorem dX12_init_902 : decode cX12_init 902 = .ok (.lastore, 1) := by decide +kernel
theorem dX12_init_903 : decode cX12_init 903 = .ok (.aload_n 0, 1) := by decide +kernel
theorem dX12_init_904 : decode cX12_init 904 = .ok (.getfield 34, 3) := by decide +kernel
theorem dX12_init_907 : decode cX12_init 907 = .ok (.bipush 19, 2) := by decide +kernel
theorem dX12_init_909 : decode cX12_init 909 = .ok (.bipush 118, 2) := by decide +kernel
theorem dX12_init_911 : decode cX12_init 911 = .ok (.bipush 111, 2) := by decide +kernel
theorem dX12_init_913 : decode cX12_init 913 = .ok (.bipush 105, 2) := by decide +kernel
theorem dX12_init_915 : decode cX12_init 915 = .ok (.bipush 100, 2) := by decide +kernel
theorem dX12_init_917 : decode cX12_init 917 = .ok (.bipush 115, 2) := by decide +kernel
theorem dX12_init_919 : decode cX12_init 919 = .ok (.iconst 0, 1) := by decide +kernel
theorem dX12_init_920 : decode cX12_init 920 = .ok (.iconst 0, 1) := by decide +kernel
theorem dX12_init_921 : decode cX12_init 921 = .ok (.invokestatic 202, 3) := by decide +kernel
theorem dX12_init_924 : decode cX12_init 924 = .ok (.lastore, 1) := by decide +kernel
theorem dX12_init_925 : decode cX12_init 925 = .ok (.aload_n 0, 1) := by decide +kernel
theorem dX12_init_926 : decode cX12_init 926 = .ok (.getfield 34, 3) := by decide +kernel
theorem dX12_init_929 : decode cX12_init 929 = .ok (.bipush 20, 2) := by decide +kernel
theorem dX12_init_931 : decode cX12_init 931 = .ok (.bipush 116, 2) := by decide +kernel
theorem dX12_init_933 : decode cX12_init 933 = .ok (.bipush 114, 2) := by decide +kernel
theorem dX12_init_935 : decode cX12_init 935 = .ok (.bipush 117, 2) := by decide +kernel
theorem dX12_init_937 : decode cX12_init 937 = .ok (.bipush 109, 2) := by decide +kernel
theorem dX12_init_939 : decode cX12_init 939 = .ok (.bipush 112, 2) := by decide +kernel
theorem dX12_init_941 : decode cX12_init 941 = .ok (.bipush 115, 2) := by decide +kernel
theorem dX12_init_943 : decode cX12_init 943 = .ok (.iconst 0, 1) := by decide +kernel
theorem dX12_init_944 : decode cX12_init 944 = .ok (.invokestatic 202, 3) := by decide +kernel
theorem dX12_init_947 : decode cX12_init 947 = .ok (.lastore, 1) := by decide +kernel
theorem dX12_init_948 : decode cX12_init 948 = .ok (.aload_n 0, 1) := by decide +kernel
theorem dX12_init_949 : decode cX12_init 949 = .ok (.getfield 34, 3) := by decide +kernel
theorem dX12_init_952 : decode cX12_init 952 = .ok (.bipush 21, 2) := by decide +kernel
theorem dX12_init_954 : decode cX12_init 954 = .ok (.bipush 99, 2) := by decide +kernel
theorem dX12_init_956 : decode cX12_init 956 = .ok (.bipush 111, 2) := by decide +kernel
theorem dX12_init_958 : decode cX12_init 958 = .ok (.bipush 117, 2) := by decide +kernel
theorem dX12_init_960 : decode cX12_init 960 = .ok (.bipush 110, 2) := by decide +kernel
theorem dX12_init_962 : decode cX12_init 962 = .ok (.bipush 116, 2) := by decide +kernel
theorem dX12_init_964 : decode cX12_init 964 = .ok (.iconst 0, 1) := by decide +kernel
theorem dX12_init_965 : decode cX12_init 965 = .ok (.iconst 0, 1) := by decide +kernel
theorem dX12_init_966 : decode cX12_init 966 = .ok (.invokestatic 202, 3) := by decide +kernel
theorem dX12_init_969 : decode cX12_init 969 = .ok (.lastore, 1) := by decide +kernel
theorem dX12_init_970 : decode cX12_init 970 = .ok (.return_, 1) := by decide +kernel
theorem dX12_word_0 : decode cX12_word 0 = .ok (.lconst 0, 1) := by decide +kernel
theorem dX12_word_1 : decode cX12_word 1 = .ok (.iload_n 0, 1) := by decide +kernel
theorem dX12_word_2 : decode cX12_word 2 = .ok (.invokestatic 218, 3) := by decide +kernel
theorem dX12_word_5 : decode cX12_word 5 = .ok (.iload_n 1, 1) := by decide +kernel
theorem dX12_word_6 : decode cX12_word 6 = .ok (.invokestatic 218, 3) := by decide +kernel
theorem dX12_word_9 : decode cX12_word 9 = .ok (.iload_n 2, 1) := by decide +kernel
theorem dX12_word_10 : decode cX12_word 10 = .ok (.invokestatic 218, 3) := by decide +kernel
theorem dX12_word_13 : decode cX12_word 13 = .ok (.iload_n 3, 1) := by decide +kernel
theorem dX12_word_14 : decode cX12_word 14 = .ok (.invokestatic 218, 3) := by decide +kernel
theorem dX12_word_17 : decode cX12_word 17 = .ok (.iload 4, 2) := by decide +kernel
theorem dX12_word_19 : decode cX12_word 19 = .ok (.invokestatic 218, 3) := by decide +kernel
theorem dX12_word_22 : decode cX12_word 22 = .ok (.iload 5, 2) := by decide +kernel
theorem dX12_word_24 : decode cX12_word 24 = .ok (.invokestatic 218, 3) := by decide +kernel
theorem dX12_word_27 : decode cX12_word 27 = .ok (.iload 6, 2) := by decide +kernel
theorem dX12_word_29 : decode cX12_word 29 = .ok (.invokestatic 218, 3) := by decide +kernel
theorem dX12_word_32 : decode cX12_word 32 = .ok (.lreturn, 1) := by decide +kernel
