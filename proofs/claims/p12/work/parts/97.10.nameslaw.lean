/-! names of the law -/
abbrev cX11_after : ByteArray := prog_1_method_24_code
def yX11_after : MethodName := ⟨RX11, "after", "(III)I"⟩
abbrev cX11_back : ByteArray := prog_1_method_4_code
def yX11_back : MethodName := ⟨RX11, "back", "(I)I"⟩
abbrev cX11_bestSet : ByteArray := prog_1_method_40_code
def yX11_bestSet : MethodName := ⟨RX11, "bestSet", "(III)I"⟩
abbrev cX11_book : ByteArray := prog_1_method_42_code
def yX11_book : MethodName := ⟨RX11, "book", "()I"⟩
abbrev cX11_canBe : ByteArray := prog_1_method_23_code
def yX11_canBe : MethodName := ⟨RX11, "canBe", "(II)I"⟩
abbrev cX11_card : ByteArray := prog_1_method_18_code
def yX11_card : MethodName := ⟨RX11, "card", "(II)I"⟩
abbrev cX11_choice : ByteArray := prog_1_method_32_code
def yX11_choice : MethodName := ⟨RX11, "choice", "(I)I"⟩
abbrev cX11_count : ByteArray := prog_1_method_50_code
def yX11_count : MethodName := ⟨RX11, "count", "(I)I"⟩
abbrev cX11_deal : ByteArray := prog_1_method_8_code
def yX11_deal : MethodName := ⟨RX11, "deal", "(I)Z"⟩
abbrev cX11_differs : ByteArray := prog_1_method_36_code
def yX11_differs : MethodName := ⟨RX11, "differs", "(I)I"⟩
abbrev cX11_feed : ByteArray := prog_1_method_2_code
def yX11_feed : MethodName := ⟨RX11, "feed", "(IIIII)I"⟩
abbrev cX11_gain : ByteArray := prog_1_method_39_code
def yX11_gain : MethodName := ⟨RX11, "gain", "(III)I"⟩
abbrev cX11_gap : ByteArray := prog_1_method_47_code
def yX11_gap : MethodName := ⟨RX11, "gap", "()I"⟩
abbrev cX11_had : ByteArray := prog_1_method_26_code
def yX11_had : MethodName := ⟨RX11, "had", "(IIII)I"⟩
abbrev cX11_hand : ByteArray := prog_1_method_12_code
def yX11_hand : MethodName := ⟨RX11, "hand", "(IZ)I"⟩
abbrev cX11_hands : ByteArray := prog_1_method_9_code
def yX11_hands : MethodName := ⟨RX11, "hands", "(III)Z"⟩
abbrev cX11_hold : ByteArray := prog_1_method_48_code
def yX11_hold : MethodName := ⟨RX11, "hold", "(I)Z"⟩
abbrev cX11_kept : ByteArray := prog_1_method_43_code
def yX11_kept : MethodName := ⟨RX11, "kept", "(I)I"⟩
abbrev cX11_knows : ByteArray := prog_1_method_28_code
def yX11_knows : MethodName := ⟨RX11, "knows", "(IIII)I"⟩
abbrev cX11_lead : ByteArray := prog_1_method_11_code
def yX11_lead : MethodName := ⟨RX11, "lead", "(I)Z"⟩
abbrev cX11_lies : ByteArray := prog_1_method_37_code
def yX11_lies : MethodName := ⟨RX11, "lies", "(I)I"⟩
abbrev cX11_line : ByteArray := prog_1_method_30_code
def yX11_line : MethodName := ⟨RX11, "line", "(I)I"⟩
abbrev cX11_loss : ByteArray := prog_1_method_35_code
def yX11_loss : MethodName := ⟨RX11, "loss", "(I)I"⟩
abbrev cX11_may : ByteArray := prog_1_method_14_code
def yX11_may : MethodName := ⟨RX11, "may", "()I"⟩
abbrev cX11_mean : ByteArray := prog_1_method_31_code
def yX11_mean : MethodName := ⟨RX11, "mean", "(II)J"⟩
abbrev cX11_open : ByteArray := prog_1_method_29_code
def yX11_open : MethodName := ⟨RX11, "open", "()I"⟩
abbrev cX11_openings : ByteArray := prog_1_method_45_code
def yX11_openings : MethodName := ⟨RX11, "openings", "(II)I"⟩
abbrev cX11_place : ByteArray := prog_1_method_7_code
def yX11_place : MethodName := ⟨RX11, "place", "()I"⟩
abbrev cX11_play : ByteArray := prog_1_method_15_code
def yX11_play : MethodName := ⟨RX11, "play", "(I)I"⟩
abbrev cX11_quarrel : ByteArray := prog_1_method_46_code
def yX11_quarrel : MethodName := ⟨RX11, "quarrel", "(II)I"⟩
abbrev cX11_read : ByteArray := prog_1_method_5_code
def yX11_read : MethodName := ⟨RX11, "read", "()I"⟩
abbrev cX11_restore : ByteArray := prog_1_method_49_code
def yX11_restore : MethodName := ⟨RX11, "restore", "(I)Z"⟩
abbrev cX11_revoke : ByteArray := prog_1_method_16_code
def yX11_revoke : MethodName := ⟨RX11, "revoke", "(I)I"⟩
abbrev cX11_revokes : ByteArray := prog_1_method_21_code
def yX11_revokes : MethodName := ⟨RX11, "revokes", "(I)I"⟩
abbrev cX11_safe : ByteArray := prog_1_method_34_code
def yX11_safe : MethodName := ⟨RX11, "safe", "(II)I"⟩
abbrev cX11_says : ByteArray := prog_1_method_22_code
def yX11_says : MethodName := ⟨RX11, "says", "(III)I"⟩
abbrev cX11_spread : ByteArray := prog_1_method_33_code
def yX11_spread : MethodName := ⟨RX11, "spread", "(III)I"⟩
abbrev cX11_sure : ByteArray := prog_1_method_27_code
def yX11_sure : MethodName := ⟨RX11, "sure", "(II)I"⟩
abbrev cX11_told : ByteArray := prog_1_method_44_code
def yX11_told : MethodName := ⟨RX11, "told", "(III)I"⟩
abbrev cX11_tricks : ByteArray := prog_1_method_19_code
def yX11_tricks : MethodName := ⟨RX11, "tricks", "(I)I"⟩
abbrev cX11_turn : ByteArray := prog_1_method_13_code
def yX11_turn : MethodName := ⟨RX11, "turn", "()I"⟩
abbrev cX11_undo : ByteArray := prog_1_method_17_code
def yX11_undo : MethodName := ⟨RX11, "undo", "()I"⟩
abbrev cX11_winner : ByteArray := prog_1_method_20_code
def yX11_winner : MethodName := ⟨RX11, "winner", "(I)I"⟩
abbrev cX11_worth : ByteArray := prog_1_method_38_code
def yX11_worth : MethodName := ⟨RX11, "worth", "(I)J"⟩
abbrev cX12_after : ByteArray := prog_14_method_91_code
def yX12_after : MethodName := ⟨RX12, "after", "(III)I"⟩
abbrev cX12_back : ByteArray := prog_14_method_5_code
def yX12_back : MethodName := ⟨RX12, "back", "(I)I"⟩
abbrev cX12_bestSet : ByteArray := prog_14_method_134_code
def yX12_bestSet : MethodName := ⟨RX12, "bestSet", "(III)I"⟩
abbrev cX12_book : ByteArray := prog_14_method_135_code
def yX12_book : MethodName := ⟨RX12, "book", "()I"⟩
abbrev cX12_canBe : ByteArray := prog_14_method_90_code
def yX12_canBe : MethodName := ⟨RX12, "canBe", "(II)I"⟩
abbrev cX12_card : ByteArray := prog_14_method_69_code
def yX12_card : MethodName := ⟨RX12, "card", "(II)I"⟩
abbrev cX12_choice : ByteArray := prog_14_method_119_code
def yX12_choice : MethodName := ⟨RX12, "choice", "(I)I"⟩
abbrev cX12_count : ByteArray := prog_14_method_148_code
def yX12_count : MethodName := ⟨RX12, "count", "(I)I"⟩
abbrev cX12_deal : ByteArray := prog_14_method_47_code
def yX12_deal : MethodName := ⟨RX12, "deal", "(I)Z"⟩
abbrev cX12_differs : ByteArray := prog_14_method_124_code
def yX12_differs : MethodName := ⟨RX12, "differs", "(I)I"⟩
abbrev cX12_feed : ByteArray := prog_14_method_3_code
def yX12_feed : MethodName := ⟨RX12, "feed", "(IIIII)I"⟩
abbrev cX12_gain : ByteArray := prog_14_method_133_code
def yX12_gain : MethodName := ⟨RX12, "gain", "(III)I"⟩
abbrev cX12_gap : ByteArray := prog_14_method_145_code
def yX12_gap : MethodName := ⟨RX12, "gap", "()I"⟩
abbrev cX12_had : ByteArray := prog_14_method_92_code
def yX12_had : MethodName := ⟨RX12, "had", "(IIII)I"⟩
abbrev cX12_hand : ByteArray := prog_14_method_52_code
def yX12_hand : MethodName := ⟨RX12, "hand", "(IZ)I"⟩
abbrev cX12_hands : ByteArray := prog_14_method_48_code
def yX12_hands : MethodName := ⟨RX12, "hands", "(III)Z"⟩
abbrev cX12_hold : ByteArray := prog_14_method_146_code
def yX12_hold : MethodName := ⟨RX12, "hold", "(I)Z"⟩
abbrev cX12_kept : ByteArray := prog_14_method_137_code
def yX12_kept : MethodName := ⟨RX12, "kept", "(I)I"⟩
abbrev cX12_knows : ByteArray := prog_14_method_96_code
def yX12_knows : MethodName := ⟨RX12, "knows", "(IIII)I"⟩
abbrev cX12_lead : ByteArray := prog_14_method_49_code
def yX12_lead : MethodName := ⟨RX12, "lead", "(I)Z"⟩
abbrev cX12_lies : ByteArray := prog_14_method_126_code
def yX12_lies : MethodName := ⟨RX12, "lies", "(I)I"⟩
abbrev cX12_line : ByteArray := prog_14_method_111_code
def yX12_line : MethodName := ⟨RX12, "line", "(I)I"⟩
abbrev cX12_loss : ByteArray := prog_14_method_123_code
def yX12_loss : MethodName := ⟨RX12, "loss", "(I)I"⟩
abbrev cX12_may : ByteArray := prog_14_method_59_code
def yX12_may : MethodName := ⟨RX12, "may", "()I"⟩
abbrev cX12_mean : ByteArray := prog_14_method_117_code
def yX12_mean : MethodName := ⟨RX12, "mean", "(II)J"⟩
abbrev cX12_open : ByteArray := prog_14_method_109_code
def yX12_open : MethodName := ⟨RX12, "open", "()I"⟩
abbrev cX12_openings : ByteArray := prog_14_method_143_code
def yX12_openings : MethodName := ⟨RX12, "openings", "(II)I"⟩
abbrev cX12_place : ByteArray := prog_14_method_20_code
def yX12_place : MethodName := ⟨RX12, "place", "()I"⟩
abbrev cX12_play : ByteArray := prog_14_method_62_code
def yX12_play : MethodName := ⟨RX12, "play", "(I)I"⟩
abbrev cX12_quarrel : ByteArray := prog_14_method_144_code
def yX12_quarrel : MethodName := ⟨RX12, "quarrel", "(II)I"⟩
abbrev cX12_read : ByteArray := prog_14_method_19_code
def yX12_read : MethodName := ⟨RX12, "read", "()I"⟩
abbrev cX12_restore : ByteArray := prog_14_method_147_code
def yX12_restore : MethodName := ⟨RX12, "restore", "(I)Z"⟩
abbrev cX12_revoke : ByteArray := prog_14_method_63_code
def yX12_revoke : MethodName := ⟨RX12, "revoke", "(I)I"⟩
abbrev cX12_revokes : ByteArray := prog_14_method_72_code
def yX12_revokes : MethodName := ⟨RX12, "revokes", "(I)I"⟩
abbrev cX12_safe : ByteArray := prog_14_method_121_code
def yX12_safe : MethodName := ⟨RX12, "safe", "(II)I"⟩
abbrev cX12_says : ByteArray := prog_14_method_81_code
def yX12_says : MethodName := ⟨RX12, "says", "(III)I"⟩
abbrev cX12_spread : ByteArray := prog_14_method_120_code
def yX12_spread : MethodName := ⟨RX12, "spread", "(III)I"⟩
abbrev cX12_sure : ByteArray := prog_14_method_94_code
def yX12_sure : MethodName := ⟨RX12, "sure", "(II)I"⟩
abbrev cX12_told : ByteArray := prog_14_method_139_code
def yX12_told : MethodName := ⟨RX12, "told", "(III)I"⟩
abbrev cX12_tricks : ByteArray := prog_14_method_70_code
def yX12_tricks : MethodName := ⟨RX12, "tricks", "(I)I"⟩
abbrev cX12_turn : ByteArray := prog_14_method_56_code
def yX12_turn : MethodName := ⟨RX12, "turn", "()I"⟩
abbrev cX12_undo : ByteArray := prog_14_method_64_code
def yX12_undo : MethodName := ⟨RX12, "undo", "()I"⟩
abbrev cX12_winner : ByteArray := prog_14_method_71_code
def yX12_winner : MethodName := ⟨RX12, "winner", "(I)I"⟩
abbrev cX12_worth : ByteArray := prog_14_method_127_code
def yX12_worth : MethodName := ⟨RX12, "worth", "(I)J"⟩
theorem kw_154 : Cond.initialized "SignalTable" ∈ lwg := wu_mem (i := 154) (by decide +kernel) rfl
theorem kw_750 : Cond.methodLink "SignalTableLaw" 13 yX11_feed ∈ lwg := wu_mem (i := 750) (by decide +kernel) rfl
theorem kw_751 : Cond.instanceMethod yX11_feed ∈ lwg := wu_mem (i := 751) (by decide +kernel) rfl
theorem kw_752 : Cond.selects "SignalTable" yX11_feed yX11_feed ∈ lwg := wu_mem (i := 752) (by decide +kernel) rfl
theorem kw_753 : Cond.code yX11_feed cX11_feed 6 (some .int) ∈ lwg := wu_mem (i := 753) (by decide +kernel) rfl
theorem kw_758 : Cond.methodLink "SignalTableLaw" 18 yX11_back ∈ lwg := wu_mem (i := 758) (by decide +kernel) rfl
theorem kw_759 : Cond.instanceMethod yX11_back ∈ lwg := wu_mem (i := 759) (by decide +kernel) rfl
theorem kw_760 : Cond.selects "SignalTable" yX11_back yX11_back ∈ lwg := wu_mem (i := 760) (by decide +kernel) rfl
theorem kw_761 : Cond.code yX11_back cX11_back 2 (some .int) ∈ lwg := wu_mem (i := 761) (by decide +kernel) rfl
theorem kw_762 : Cond.methodLink "SignalTableLaw" 23 yX11_read ∈ lwg := wu_mem (i := 762) (by decide +kernel) rfl
theorem kw_763 : Cond.instanceMethod yX11_read ∈ lwg := wu_mem (i := 763) (by decide +kernel) rfl
theorem kw_764 : Cond.selects "SignalTable" yX11_read yX11_read ∈ lwg := wu_mem (i := 764) (by decide +kernel) rfl
theorem kw_765 : Cond.code yX11_read cX11_read 2 (some .int) ∈ lwg := wu_mem (i := 765) (by decide +kernel) rfl
theorem kw_900 : Cond.methodLink "SignalTableLaw" 28 yX11_place ∈ lwg := wu_mem (i := 900) (by decide +kernel) rfl
theorem kw_901 : Cond.instanceMethod yX11_place ∈ lwg := wu_mem (i := 901) (by decide +kernel) rfl
theorem kw_902 : Cond.selects "SignalTable" yX11_place yX11_place ∈ lwg := wu_mem (i := 902) (by decide +kernel) rfl
theorem kw_903 : Cond.code yX11_place cX11_place 1 (some .int) ∈ lwg := wu_mem (i := 903) (by decide +kernel) rfl
theorem kw_904 : Cond.methodLink "SignalTableLaw" 32 yX11_deal ∈ lwg := wu_mem (i := 904) (by decide +kernel) rfl
theorem kw_905 : Cond.instanceMethod yX11_deal ∈ lwg := wu_mem (i := 905) (by decide +kernel) rfl
theorem kw_906 : Cond.selects "SignalTable" yX11_deal yX11_deal ∈ lwg := wu_mem (i := 906) (by decide +kernel) rfl
theorem kw_907 : Cond.code yX11_deal cX11_deal 2 (some .boolean) ∈ lwg := wu_mem (i := 907) (by decide +kernel) rfl
theorem kw_931 : Cond.methodLink "SignalTableLaw" 37 yX11_hands ∈ lwg := wu_mem (i := 931) (by decide +kernel) rfl
theorem kw_932 : Cond.instanceMethod yX11_hands ∈ lwg := wu_mem (i := 932) (by decide +kernel) rfl
theorem kw_933 : Cond.selects "SignalTable" yX11_hands yX11_hands ∈ lwg := wu_mem (i := 933) (by decide +kernel) rfl
theorem kw_934 : Cond.code yX11_hands cX11_hands 5 (some .boolean) ∈ lwg := wu_mem (i := 934) (by decide +kernel) rfl
theorem kw_950 : Cond.methodLink "SignalTableLaw" 42 yX11_lead ∈ lwg := wu_mem (i := 950) (by decide +kernel) rfl
theorem kw_951 : Cond.instanceMethod yX11_lead ∈ lwg := wu_mem (i := 951) (by decide +kernel) rfl
theorem kw_952 : Cond.selects "SignalTable" yX11_lead yX11_lead ∈ lwg := wu_mem (i := 952) (by decide +kernel) rfl
theorem kw_953 : Cond.code yX11_lead cX11_lead 2 (some .boolean) ∈ lwg := wu_mem (i := 953) (by decide +kernel) rfl
theorem kw_959 : Cond.methodLink "SignalTableLaw" 46 yX11_hand ∈ lwg := wu_mem (i := 959) (by decide +kernel) rfl
theorem kw_960 : Cond.instanceMethod yX11_hand ∈ lwg := wu_mem (i := 960) (by decide +kernel) rfl
theorem kw_961 : Cond.selects "SignalTable" yX11_hand yX11_hand ∈ lwg := wu_mem (i := 961) (by decide +kernel) rfl
theorem kw_962 : Cond.code yX11_hand cX11_hand 3 (some .int) ∈ lwg := wu_mem (i := 962) (by decide +kernel) rfl
theorem kw_963 : Cond.methodLink "SignalTableLaw" 51 yX11_turn ∈ lwg := wu_mem (i := 963) (by decide +kernel) rfl
theorem kw_964 : Cond.instanceMethod yX11_turn ∈ lwg := wu_mem (i := 964) (by decide +kernel) rfl
theorem kw_965 : Cond.selects "SignalTable" yX11_turn yX11_turn ∈ lwg := wu_mem (i := 965) (by decide +kernel) rfl
theorem kw_966 : Cond.code yX11_turn cX11_turn 1 (some .int) ∈ lwg := wu_mem (i := 966) (by decide +kernel) rfl
theorem kw_967 : Cond.methodLink "SignalTableLaw" 55 yX11_may ∈ lwg := wu_mem (i := 967) (by decide +kernel) rfl
theorem kw_968 : Cond.instanceMethod yX11_may ∈ lwg := wu_mem (i := 968) (by decide +kernel) rfl
theorem kw_969 : Cond.selects "SignalTable" yX11_may yX11_may ∈ lwg := wu_mem (i := 969) (by decide +kernel) rfl
theorem kw_970 : Cond.code yX11_may cX11_may 1 (some .int) ∈ lwg := wu_mem (i := 970) (by decide +kernel) rfl
theorem kw_979 : Cond.methodLink "SignalTableLaw" 59 yX11_play ∈ lwg := wu_mem (i := 979) (by decide +kernel) rfl
theorem kw_980 : Cond.instanceMethod yX11_play ∈ lwg := wu_mem (i := 980) (by decide +kernel) rfl
theorem kw_981 : Cond.selects "SignalTable" yX11_play yX11_play ∈ lwg := wu_mem (i := 981) (by decide +kernel) rfl
theorem kw_982 : Cond.code yX11_play cX11_play 2 (some .int) ∈ lwg := wu_mem (i := 982) (by decide +kernel) rfl
theorem kw_1045 : Cond.methodLink "SignalTableLaw" 63 yX11_revoke ∈ lwg := wu_mem (i := 1045) (by decide +kernel) rfl
theorem kw_1046 : Cond.instanceMethod yX11_revoke ∈ lwg := wu_mem (i := 1046) (by decide +kernel) rfl
theorem kw_1047 : Cond.selects "SignalTable" yX11_revoke yX11_revoke ∈ lwg := wu_mem (i := 1047) (by decide +kernel) rfl
theorem kw_1048 : Cond.code yX11_revoke cX11_revoke 2 (some .int) ∈ lwg := wu_mem (i := 1048) (by decide +kernel) rfl
theorem kw_1049 : Cond.methodLink "SignalTableLaw" 67 yX11_undo ∈ lwg := wu_mem (i := 1049) (by decide +kernel) rfl
theorem kw_1050 : Cond.instanceMethod yX11_undo ∈ lwg := wu_mem (i := 1050) (by decide +kernel) rfl
theorem kw_1051 : Cond.selects "SignalTable" yX11_undo yX11_undo ∈ lwg := wu_mem (i := 1051) (by decide +kernel) rfl
theorem kw_1052 : Cond.code yX11_undo cX11_undo 1 (some .int) ∈ lwg := wu_mem (i := 1052) (by decide +kernel) rfl
theorem kw_1057 : Cond.methodLink "SignalTableLaw" 71 yX11_card ∈ lwg := wu_mem (i := 1057) (by decide +kernel) rfl
theorem kw_1058 : Cond.instanceMethod yX11_card ∈ lwg := wu_mem (i := 1058) (by decide +kernel) rfl
theorem kw_1059 : Cond.selects "SignalTable" yX11_card yX11_card ∈ lwg := wu_mem (i := 1059) (by decide +kernel) rfl
theorem kw_1060 : Cond.code yX11_card cX11_card 3 (some .int) ∈ lwg := wu_mem (i := 1060) (by decide +kernel) rfl
theorem kw_1065 : Cond.methodLink "SignalTableLaw" 76 yX11_tricks ∈ lwg := wu_mem (i := 1065) (by decide +kernel) rfl
theorem kw_1066 : Cond.instanceMethod yX11_tricks ∈ lwg := wu_mem (i := 1066) (by decide +kernel) rfl
theorem kw_1067 : Cond.selects "SignalTable" yX11_tricks yX11_tricks ∈ lwg := wu_mem (i := 1067) (by decide +kernel) rfl
theorem kw_1068 : Cond.code yX11_tricks cX11_tricks 2 (some .int) ∈ lwg := wu_mem (i := 1068) (by decide +kernel) rfl
theorem kw_1073 : Cond.methodLink "SignalTableLaw" 80 yX11_winner ∈ lwg := wu_mem (i := 1073) (by decide +kernel) rfl
theorem kw_1074 : Cond.instanceMethod yX11_winner ∈ lwg := wu_mem (i := 1074) (by decide +kernel) rfl
theorem kw_1075 : Cond.selects "SignalTable" yX11_winner yX11_winner ∈ lwg := wu_mem (i := 1075) (by decide +kernel) rfl
theorem kw_1076 : Cond.code yX11_winner cX11_winner 2 (some .int) ∈ lwg := wu_mem (i := 1076) (by decide +kernel) rfl
theorem kw_1077 : Cond.methodLink "SignalTableLaw" 110 yX11_revokes ∈ lwg := wu_mem (i := 1077) (by decide +kernel) rfl
theorem kw_1078 : Cond.instanceMethod yX11_revokes ∈ lwg := wu_mem (i := 1078) (by decide +kernel) rfl
theorem kw_1079 : Cond.selects "SignalTable" yX11_revokes yX11_revokes ∈ lwg := wu_mem (i := 1079) (by decide +kernel) rfl
theorem kw_1080 : Cond.code yX11_revokes cX11_revokes 7 (some .int) ∈ lwg := wu_mem (i := 1080) (by decide +kernel) rfl
theorem kw_1082 : Cond.methodLink "SignalTableLaw" 84 yX11_says ∈ lwg := wu_mem (i := 1082) (by decide +kernel) rfl
theorem kw_1083 : Cond.instanceMethod yX11_says ∈ lwg := wu_mem (i := 1083) (by decide +kernel) rfl
theorem kw_1084 : Cond.selects "SignalTable" yX11_says yX11_says ∈ lwg := wu_mem (i := 1084) (by decide +kernel) rfl
theorem kw_1085 : Cond.code yX11_says cX11_says 4 (some .int) ∈ lwg := wu_mem (i := 1085) (by decide +kernel) rfl
theorem kw_1090 : Cond.methodLink "SignalTableLaw" 89 yX11_canBe ∈ lwg := wu_mem (i := 1090) (by decide +kernel) rfl
theorem kw_1091 : Cond.instanceMethod yX11_canBe ∈ lwg := wu_mem (i := 1091) (by decide +kernel) rfl
theorem kw_1092 : Cond.selects "SignalTable" yX11_canBe yX11_canBe ∈ lwg := wu_mem (i := 1092) (by decide +kernel) rfl
theorem kw_1093 : Cond.code yX11_canBe cX11_canBe 3 (some .int) ∈ lwg := wu_mem (i := 1093) (by decide +kernel) rfl
theorem kw_1135 : Cond.methodLink "SignalTableLaw" 102 yX11_after ∈ lwg := wu_mem (i := 1135) (by decide +kernel) rfl
theorem kw_1136 : Cond.instanceMethod yX11_after ∈ lwg := wu_mem (i := 1136) (by decide +kernel) rfl
theorem kw_1137 : Cond.selects "SignalTable" yX11_after yX11_after ∈ lwg := wu_mem (i := 1137) (by decide +kernel) rfl
theorem kw_1138 : Cond.code yX11_after cX11_after 4 (some .int) ∈ lwg := wu_mem (i := 1138) (by decide +kernel) rfl
theorem kw_1139 : Cond.methodLink "SignalTableLaw" 93 yX11_had ∈ lwg := wu_mem (i := 1139) (by decide +kernel) rfl
theorem kw_1140 : Cond.instanceMethod yX11_had ∈ lwg := wu_mem (i := 1140) (by decide +kernel) rfl
theorem kw_1141 : Cond.selects "SignalTable" yX11_had yX11_had ∈ lwg := wu_mem (i := 1141) (by decide +kernel) rfl
theorem kw_1142 : Cond.code yX11_had cX11_had 5 (some .int) ∈ lwg := wu_mem (i := 1142) (by decide +kernel) rfl
theorem kw_1147 : Cond.methodLink "SignalTableLaw" 98 yX11_sure ∈ lwg := wu_mem (i := 1147) (by decide +kernel) rfl
theorem kw_1148 : Cond.instanceMethod yX11_sure ∈ lwg := wu_mem (i := 1148) (by decide +kernel) rfl
theorem kw_1149 : Cond.selects "SignalTable" yX11_sure yX11_sure ∈ lwg := wu_mem (i := 1149) (by decide +kernel) rfl
theorem kw_1150 : Cond.code yX11_sure cX11_sure 3 (some .int) ∈ lwg := wu_mem (i := 1150) (by decide +kernel) rfl
theorem kw_1155 : Cond.methodLink "SignalTableLaw" 106 yX11_knows ∈ lwg := wu_mem (i := 1155) (by decide +kernel) rfl
theorem kw_1156 : Cond.instanceMethod yX11_knows ∈ lwg := wu_mem (i := 1156) (by decide +kernel) rfl
theorem kw_1157 : Cond.selects "SignalTable" yX11_knows yX11_knows ∈ lwg := wu_mem (i := 1157) (by decide +kernel) rfl
theorem kw_1158 : Cond.code yX11_knows cX11_knows 6 (some .int) ∈ lwg := wu_mem (i := 1158) (by decide +kernel) rfl
theorem kw_1172 : Cond.methodLink "SignalTableLaw" 114 yX11_open ∈ lwg := wu_mem (i := 1172) (by decide +kernel) rfl
theorem kw_1173 : Cond.instanceMethod yX11_open ∈ lwg := wu_mem (i := 1173) (by decide +kernel) rfl
theorem kw_1174 : Cond.selects "SignalTable" yX11_open yX11_open ∈ lwg := wu_mem (i := 1174) (by decide +kernel) rfl
theorem kw_1175 : Cond.code yX11_open cX11_open 1 (some .int) ∈ lwg := wu_mem (i := 1175) (by decide +kernel) rfl
theorem kw_1235 : Cond.methodLink "SignalTableLaw" 118 yX11_line ∈ lwg := wu_mem (i := 1235) (by decide +kernel) rfl
theorem kw_1236 : Cond.instanceMethod yX11_line ∈ lwg := wu_mem (i := 1236) (by decide +kernel) rfl
theorem kw_1237 : Cond.selects "SignalTable" yX11_line yX11_line ∈ lwg := wu_mem (i := 1237) (by decide +kernel) rfl
theorem kw_1238 : Cond.code yX11_line cX11_line 2 (some .int) ∈ lwg := wu_mem (i := 1238) (by decide +kernel) rfl
theorem kw_1255 : Cond.methodLink "SignalTableLaw" 122 yX11_mean ∈ lwg := wu_mem (i := 1255) (by decide +kernel) rfl
theorem kw_1256 : Cond.instanceMethod yX11_mean ∈ lwg := wu_mem (i := 1256) (by decide +kernel) rfl
theorem kw_1257 : Cond.selects "SignalTable" yX11_mean yX11_mean ∈ lwg := wu_mem (i := 1257) (by decide +kernel) rfl
theorem kw_1258 : Cond.code yX11_mean cX11_mean 4 (some .long) ∈ lwg := wu_mem (i := 1258) (by decide +kernel) rfl
theorem kw_1300 : Cond.methodLink "SignalTableLaw" 127 yX11_choice ∈ lwg := wu_mem (i := 1300) (by decide +kernel) rfl
theorem kw_1301 : Cond.instanceMethod yX11_choice ∈ lwg := wu_mem (i := 1301) (by decide +kernel) rfl
theorem kw_1302 : Cond.selects "SignalTable" yX11_choice yX11_choice ∈ lwg := wu_mem (i := 1302) (by decide +kernel) rfl
theorem kw_1303 : Cond.code yX11_choice cX11_choice 3 (some .int) ∈ lwg := wu_mem (i := 1303) (by decide +kernel) rfl
theorem kw_1315 : Cond.methodLink "SignalTableLaw" 131 yX11_spread ∈ lwg := wu_mem (i := 1315) (by decide +kernel) rfl
theorem kw_1316 : Cond.instanceMethod yX11_spread ∈ lwg := wu_mem (i := 1316) (by decide +kernel) rfl
theorem kw_1317 : Cond.selects "SignalTable" yX11_spread yX11_spread ∈ lwg := wu_mem (i := 1317) (by decide +kernel) rfl
theorem kw_1318 : Cond.code yX11_spread cX11_spread 5 (some .int) ∈ lwg := wu_mem (i := 1318) (by decide +kernel) rfl
theorem kw_1320 : Cond.methodLink "SignalTableLaw" 135 yX11_safe ∈ lwg := wu_mem (i := 1320) (by decide +kernel) rfl
theorem kw_1321 : Cond.instanceMethod yX11_safe ∈ lwg := wu_mem (i := 1321) (by decide +kernel) rfl
theorem kw_1322 : Cond.selects "SignalTable" yX11_safe yX11_safe ∈ lwg := wu_mem (i := 1322) (by decide +kernel) rfl
theorem kw_1323 : Cond.code yX11_safe cX11_safe 5 (some .int) ∈ lwg := wu_mem (i := 1323) (by decide +kernel) rfl
theorem kw_1338 : Cond.methodLink "SignalTableLaw" 139 yX11_loss ∈ lwg := wu_mem (i := 1338) (by decide +kernel) rfl
theorem kw_1339 : Cond.instanceMethod yX11_loss ∈ lwg := wu_mem (i := 1339) (by decide +kernel) rfl
theorem kw_1340 : Cond.selects "SignalTable" yX11_loss yX11_loss ∈ lwg := wu_mem (i := 1340) (by decide +kernel) rfl
theorem kw_1341 : Cond.code yX11_loss cX11_loss 3 (some .int) ∈ lwg := wu_mem (i := 1341) (by decide +kernel) rfl
theorem kw_1347 : Cond.methodLink "SignalTableLaw" 143 yX11_differs ∈ lwg := wu_mem (i := 1347) (by decide +kernel) rfl
theorem kw_1348 : Cond.instanceMethod yX11_differs ∈ lwg := wu_mem (i := 1348) (by decide +kernel) rfl
theorem kw_1349 : Cond.selects "SignalTable" yX11_differs yX11_differs ∈ lwg := wu_mem (i := 1349) (by decide +kernel) rfl
theorem kw_1350 : Cond.code yX11_differs cX11_differs 5 (some .int) ∈ lwg := wu_mem (i := 1350) (by decide +kernel) rfl
theorem kw_1356 : Cond.methodLink "SignalTableLaw" 147 yX11_lies ∈ lwg := wu_mem (i := 1356) (by decide +kernel) rfl
theorem kw_1357 : Cond.instanceMethod yX11_lies ∈ lwg := wu_mem (i := 1357) (by decide +kernel) rfl
theorem kw_1358 : Cond.selects "SignalTable" yX11_lies yX11_lies ∈ lwg := wu_mem (i := 1358) (by decide +kernel) rfl
theorem kw_1359 : Cond.code yX11_lies cX11_lies 2 (some .int) ∈ lwg := wu_mem (i := 1359) (by decide +kernel) rfl
theorem kw_1364 : Cond.methodLink "SignalTableLaw" 151 yX11_worth ∈ lwg := wu_mem (i := 1364) (by decide +kernel) rfl
theorem kw_1365 : Cond.instanceMethod yX11_worth ∈ lwg := wu_mem (i := 1365) (by decide +kernel) rfl
theorem kw_1366 : Cond.selects "SignalTable" yX11_worth yX11_worth ∈ lwg := wu_mem (i := 1366) (by decide +kernel) rfl
theorem kw_1367 : Cond.code yX11_worth cX11_worth 5 (some .long) ∈ lwg := wu_mem (i := 1367) (by decide +kernel) rfl
theorem kw_1375 : Cond.methodLink "SignalTableLaw" 156 yX11_gain ∈ lwg := wu_mem (i := 1375) (by decide +kernel) rfl
theorem kw_1376 : Cond.instanceMethod yX11_gain ∈ lwg := wu_mem (i := 1376) (by decide +kernel) rfl
theorem kw_1377 : Cond.selects "SignalTable" yX11_gain yX11_gain ∈ lwg := wu_mem (i := 1377) (by decide +kernel) rfl
theorem kw_1378 : Cond.code yX11_gain cX11_gain 4 (some .int) ∈ lwg := wu_mem (i := 1378) (by decide +kernel) rfl
theorem kw_1406 : Cond.methodLink "SignalTableLaw" 160 yX11_bestSet ∈ lwg := wu_mem (i := 1406) (by decide +kernel) rfl
theorem kw_1407 : Cond.instanceMethod yX11_bestSet ∈ lwg := wu_mem (i := 1407) (by decide +kernel) rfl
theorem kw_1408 : Cond.selects "SignalTable" yX11_bestSet yX11_bestSet ∈ lwg := wu_mem (i := 1408) (by decide +kernel) rfl
theorem kw_1409 : Cond.code yX11_bestSet cX11_bestSet 9 (some .int) ∈ lwg := wu_mem (i := 1409) (by decide +kernel) rfl
theorem kw_1410 : Cond.methodLink "SignalTableLaw" 164 yX11_book ∈ lwg := wu_mem (i := 1410) (by decide +kernel) rfl
theorem kw_1411 : Cond.instanceMethod yX11_book ∈ lwg := wu_mem (i := 1411) (by decide +kernel) rfl
theorem kw_1412 : Cond.selects "SignalTable" yX11_book yX11_book ∈ lwg := wu_mem (i := 1412) (by decide +kernel) rfl
theorem kw_1413 : Cond.code yX11_book cX11_book 1 (some .int) ∈ lwg := wu_mem (i := 1413) (by decide +kernel) rfl
theorem kw_1422 : Cond.methodLink "SignalTableLaw" 168 yX11_kept ∈ lwg := wu_mem (i := 1422) (by decide +kernel) rfl
theorem kw_1423 : Cond.instanceMethod yX11_kept ∈ lwg := wu_mem (i := 1423) (by decide +kernel) rfl
theorem kw_1424 : Cond.selects "SignalTable" yX11_kept yX11_kept ∈ lwg := wu_mem (i := 1424) (by decide +kernel) rfl
theorem kw_1425 : Cond.code yX11_kept cX11_kept 4 (some .int) ∈ lwg := wu_mem (i := 1425) (by decide +kernel) rfl
theorem kw_1433 : Cond.methodLink "SignalTableLaw" 172 yX11_told ∈ lwg := wu_mem (i := 1433) (by decide +kernel) rfl
theorem kw_1434 : Cond.instanceMethod yX11_told ∈ lwg := wu_mem (i := 1434) (by decide +kernel) rfl
theorem kw_1435 : Cond.selects "SignalTable" yX11_told yX11_told ∈ lwg := wu_mem (i := 1435) (by decide +kernel) rfl
theorem kw_1436 : Cond.code yX11_told cX11_told 4 (some .int) ∈ lwg := wu_mem (i := 1436) (by decide +kernel) rfl
theorem kw_1445 : Cond.methodLink "SignalTableLaw" 176 yX11_openings ∈ lwg := wu_mem (i := 1445) (by decide +kernel) rfl
theorem kw_1446 : Cond.instanceMethod yX11_openings ∈ lwg := wu_mem (i := 1446) (by decide +kernel) rfl
theorem kw_1447 : Cond.selects "SignalTable" yX11_openings yX11_openings ∈ lwg := wu_mem (i := 1447) (by decide +kernel) rfl
theorem kw_1448 : Cond.code yX11_openings cX11_openings 3 (some .int) ∈ lwg := wu_mem (i := 1448) (by decide +kernel) rfl
theorem kw_1468 : Cond.methodLink "SignalTableLaw" 180 yX11_quarrel ∈ lwg := wu_mem (i := 1468) (by decide +kernel) rfl
theorem kw_1469 : Cond.instanceMethod yX11_quarrel ∈ lwg := wu_mem (i := 1469) (by decide +kernel) rfl
theorem kw_1470 : Cond.selects "SignalTable" yX11_quarrel yX11_quarrel ∈ lwg := wu_mem (i := 1470) (by decide +kernel) rfl
theorem kw_1471 : Cond.code yX11_quarrel cX11_quarrel 3 (some .int) ∈ lwg := wu_mem (i := 1471) (by decide +kernel) rfl
theorem kw_1476 : Cond.methodLink "SignalTableLaw" 184 yX11_gap ∈ lwg := wu_mem (i := 1476) (by decide +kernel) rfl
theorem kw_1477 : Cond.instanceMethod yX11_gap ∈ lwg := wu_mem (i := 1477) (by decide +kernel) rfl
theorem kw_1478 : Cond.selects "SignalTable" yX11_gap yX11_gap ∈ lwg := wu_mem (i := 1478) (by decide +kernel) rfl
theorem kw_1479 : Cond.code yX11_gap cX11_gap 1 (some .int) ∈ lwg := wu_mem (i := 1479) (by decide +kernel) rfl
theorem kw_1484 : Cond.methodLink "SignalTableLaw" 188 yX11_hold ∈ lwg := wu_mem (i := 1484) (by decide +kernel) rfl
theorem kw_1485 : Cond.instanceMethod yX11_hold ∈ lwg := wu_mem (i := 1485) (by decide +kernel) rfl
theorem kw_1486 : Cond.selects "SignalTable" yX11_hold yX11_hold ∈ lwg := wu_mem (i := 1486) (by decide +kernel) rfl
theorem kw_1487 : Cond.code yX11_hold cX11_hold 2 (some .boolean) ∈ lwg := wu_mem (i := 1487) (by decide +kernel) rfl
theorem kw_1488 : Cond.methodLink "SignalTableLaw" 192 yX11_restore ∈ lwg := wu_mem (i := 1488) (by decide +kernel) rfl
theorem kw_1489 : Cond.instanceMethod yX11_restore ∈ lwg := wu_mem (i := 1489) (by decide +kernel) rfl
theorem kw_1490 : Cond.selects "SignalTable" yX11_restore yX11_restore ∈ lwg := wu_mem (i := 1490) (by decide +kernel) rfl
theorem kw_1491 : Cond.code yX11_restore cX11_restore 2 (some .boolean) ∈ lwg := wu_mem (i := 1491) (by decide +kernel) rfl
theorem kw_1492 : Cond.methodLink "SignalTableLaw" 196 yX11_count ∈ lwg := wu_mem (i := 1492) (by decide +kernel) rfl
theorem kw_1493 : Cond.instanceMethod yX11_count ∈ lwg := wu_mem (i := 1493) (by decide +kernel) rfl
theorem kw_1494 : Cond.selects "SignalTable" yX11_count yX11_count ∈ lwg := wu_mem (i := 1494) (by decide +kernel) rfl
theorem kw_1495 : Cond.code yX11_count cX11_count 2 (some .int) ∈ lwg := wu_mem (i := 1495) (by decide +kernel) rfl
theorem kw_1801 : Cond.methodLink "SignalTableLaw" 17 yX12_feed ∈ lwg := wu_mem (i := 1801) (by decide +kernel) rfl
theorem kw_1802 : Cond.instanceMethod yX12_feed ∈ lwg := wu_mem (i := 1802) (by decide +kernel) rfl
theorem kw_1803 : Cond.selects "SignalTableModel" yX12_feed yX12_feed ∈ lwg := wu_mem (i := 1803) (by decide +kernel) rfl
theorem kw_1804 : Cond.code yX12_feed cX12_feed 6 (some .int) ∈ lwg := wu_mem (i := 1804) (by decide +kernel) rfl
theorem kw_1809 : Cond.methodLink "SignalTableLaw" 22 yX12_back ∈ lwg := wu_mem (i := 1809) (by decide +kernel) rfl
theorem kw_1810 : Cond.instanceMethod yX12_back ∈ lwg := wu_mem (i := 1810) (by decide +kernel) rfl
theorem kw_1811 : Cond.selects "SignalTableModel" yX12_back yX12_back ∈ lwg := wu_mem (i := 1811) (by decide +kernel) rfl
theorem kw_1812 : Cond.code yX12_back cX12_back 2 (some .int) ∈ lwg := wu_mem (i := 1812) (by decide +kernel) rfl
theorem kw_1813 : Cond.methodLink "SignalTableLaw" 27 yX12_read ∈ lwg := wu_mem (i := 1813) (by decide +kernel) rfl
theorem kw_1814 : Cond.instanceMethod yX12_read ∈ lwg := wu_mem (i := 1814) (by decide +kernel) rfl
theorem kw_1815 : Cond.selects "SignalTableModel" yX12_read yX12_read ∈ lwg := wu_mem (i := 1815) (by decide +kernel) rfl
theorem kw_1816 : Cond.code yX12_read cX12_read 2 (some .int) ∈ lwg := wu_mem (i := 1816) (by decide +kernel) rfl
theorem kw_1898 : Cond.methodLink "SignalTableLaw" 31 yX12_place ∈ lwg := wu_mem (i := 1898) (by decide +kernel) rfl
theorem kw_1899 : Cond.instanceMethod yX12_place ∈ lwg := wu_mem (i := 1899) (by decide +kernel) rfl
theorem kw_1900 : Cond.selects "SignalTableModel" yX12_place yX12_place ∈ lwg := wu_mem (i := 1900) (by decide +kernel) rfl
theorem kw_1901 : Cond.code yX12_place cX12_place 1 (some .int) ∈ lwg := wu_mem (i := 1901) (by decide +kernel) rfl
theorem kw_1902 : Cond.methodLink "SignalTableLaw" 36 yX12_deal ∈ lwg := wu_mem (i := 1902) (by decide +kernel) rfl
theorem kw_1903 : Cond.instanceMethod yX12_deal ∈ lwg := wu_mem (i := 1903) (by decide +kernel) rfl
theorem kw_1904 : Cond.selects "SignalTableModel" yX12_deal yX12_deal ∈ lwg := wu_mem (i := 1904) (by decide +kernel) rfl
theorem kw_1905 : Cond.code yX12_deal cX12_deal 5 (some .boolean) ∈ lwg := wu_mem (i := 1905) (by decide +kernel) rfl
theorem kw_1925 : Cond.methodLink "SignalTableLaw" 41 yX12_hands ∈ lwg := wu_mem (i := 1925) (by decide +kernel) rfl
theorem kw_1926 : Cond.instanceMethod yX12_hands ∈ lwg := wu_mem (i := 1926) (by decide +kernel) rfl
theorem kw_1927 : Cond.selects "SignalTableModel" yX12_hands yX12_hands ∈ lwg := wu_mem (i := 1927) (by decide +kernel) rfl
theorem kw_1928 : Cond.code yX12_hands cX12_hands 5 (some .boolean) ∈ lwg := wu_mem (i := 1928) (by decide +kernel) rfl
theorem kw_1932 : Cond.methodLink "SignalTableLaw" 45 yX12_lead ∈ lwg := wu_mem (i := 1932) (by decide +kernel) rfl
theorem kw_1933 : Cond.instanceMethod yX12_lead ∈ lwg := wu_mem (i := 1933) (by decide +kernel) rfl
theorem kw_1934 : Cond.selects "SignalTableModel" yX12_lead yX12_lead ∈ lwg := wu_mem (i := 1934) (by decide +kernel) rfl
theorem kw_1935 : Cond.code yX12_lead cX12_lead 2 (some .boolean) ∈ lwg := wu_mem (i := 1935) (by decide +kernel) rfl
theorem kw_1939 : Cond.methodLink "SignalTableLaw" 50 yX12_hand ∈ lwg := wu_mem (i := 1939) (by decide +kernel) rfl
theorem kw_1940 : Cond.instanceMethod yX12_hand ∈ lwg := wu_mem (i := 1940) (by decide +kernel) rfl
theorem kw_1941 : Cond.selects "SignalTableModel" yX12_hand yX12_hand ∈ lwg := wu_mem (i := 1941) (by decide +kernel) rfl
theorem kw_1942 : Cond.code yX12_hand cX12_hand 3 (some .int) ∈ lwg := wu_mem (i := 1942) (by decide +kernel) rfl
theorem kw_1951 : Cond.methodLink "SignalTableLaw" 54 yX12_turn ∈ lwg := wu_mem (i := 1951) (by decide +kernel) rfl
theorem kw_1952 : Cond.instanceMethod yX12_turn ∈ lwg := wu_mem (i := 1952) (by decide +kernel) rfl
theorem kw_1953 : Cond.selects "SignalTableModel" yX12_turn yX12_turn ∈ lwg := wu_mem (i := 1953) (by decide +kernel) rfl
theorem kw_1954 : Cond.code yX12_turn cX12_turn 1 (some .int) ∈ lwg := wu_mem (i := 1954) (by decide +kernel) rfl
theorem kw_1975 : Cond.methodLink "SignalTableLaw" 58 yX12_may ∈ lwg := wu_mem (i := 1975) (by decide +kernel) rfl
theorem kw_1976 : Cond.instanceMethod yX12_may ∈ lwg := wu_mem (i := 1976) (by decide +kernel) rfl
theorem kw_1977 : Cond.selects "SignalTableModel" yX12_may yX12_may ∈ lwg := wu_mem (i := 1977) (by decide +kernel) rfl
theorem kw_1978 : Cond.code yX12_may cX12_may 1 (some .int) ∈ lwg := wu_mem (i := 1978) (by decide +kernel) rfl
theorem kw_1991 : Cond.methodLink "SignalTableLaw" 62 yX12_play ∈ lwg := wu_mem (i := 1991) (by decide +kernel) rfl
theorem kw_1992 : Cond.instanceMethod yX12_play ∈ lwg := wu_mem (i := 1992) (by decide +kernel) rfl
theorem kw_1993 : Cond.selects "SignalTableModel" yX12_play yX12_play ∈ lwg := wu_mem (i := 1993) (by decide +kernel) rfl
theorem kw_1994 : Cond.code yX12_play cX12_play 2 (some .int) ∈ lwg := wu_mem (i := 1994) (by decide +kernel) rfl
theorem kw_2007 : Cond.methodLink "SignalTableLaw" 66 yX12_revoke ∈ lwg := wu_mem (i := 2007) (by decide +kernel) rfl
theorem kw_2008 : Cond.instanceMethod yX12_revoke ∈ lwg := wu_mem (i := 2008) (by decide +kernel) rfl
theorem kw_2009 : Cond.selects "SignalTableModel" yX12_revoke yX12_revoke ∈ lwg := wu_mem (i := 2009) (by decide +kernel) rfl
theorem kw_2010 : Cond.code yX12_revoke cX12_revoke 2 (some .int) ∈ lwg := wu_mem (i := 2010) (by decide +kernel) rfl
theorem kw_2011 : Cond.methodLink "SignalTableLaw" 70 yX12_undo ∈ lwg := wu_mem (i := 2011) (by decide +kernel) rfl
theorem kw_2012 : Cond.instanceMethod yX12_undo ∈ lwg := wu_mem (i := 2012) (by decide +kernel) rfl
theorem kw_2013 : Cond.selects "SignalTableModel" yX12_undo yX12_undo ∈ lwg := wu_mem (i := 2013) (by decide +kernel) rfl
theorem kw_2014 : Cond.code yX12_undo cX12_undo 1 (some .int) ∈ lwg := wu_mem (i := 2014) (by decide +kernel) rfl
theorem kw_2015 : Cond.methodLink "SignalTableLaw" 75 yX12_card ∈ lwg := wu_mem (i := 2015) (by decide +kernel) rfl
theorem kw_2016 : Cond.instanceMethod yX12_card ∈ lwg := wu_mem (i := 2016) (by decide +kernel) rfl
theorem kw_2017 : Cond.selects "SignalTableModel" yX12_card yX12_card ∈ lwg := wu_mem (i := 2017) (by decide +kernel) rfl
theorem kw_2018 : Cond.code yX12_card cX12_card 3 (some .int) ∈ lwg := wu_mem (i := 2018) (by decide +kernel) rfl
theorem kw_2039 : Cond.methodLink "SignalTableLaw" 79 yX12_tricks ∈ lwg := wu_mem (i := 2039) (by decide +kernel) rfl
theorem kw_2040 : Cond.instanceMethod yX12_tricks ∈ lwg := wu_mem (i := 2040) (by decide +kernel) rfl
theorem kw_2041 : Cond.selects "SignalTableModel" yX12_tricks yX12_tricks ∈ lwg := wu_mem (i := 2041) (by decide +kernel) rfl
theorem kw_2042 : Cond.code yX12_tricks cX12_tricks 4 (some .int) ∈ lwg := wu_mem (i := 2042) (by decide +kernel) rfl
theorem kw_2043 : Cond.methodLink "SignalTableLaw" 83 yX12_winner ∈ lwg := wu_mem (i := 2043) (by decide +kernel) rfl
theorem kw_2044 : Cond.instanceMethod yX12_winner ∈ lwg := wu_mem (i := 2044) (by decide +kernel) rfl
theorem kw_2045 : Cond.selects "SignalTableModel" yX12_winner yX12_winner ∈ lwg := wu_mem (i := 2045) (by decide +kernel) rfl
theorem kw_2046 : Cond.code yX12_winner cX12_winner 2 (some .int) ∈ lwg := wu_mem (i := 2046) (by decide +kernel) rfl
theorem kw_2047 : Cond.methodLink "SignalTableLaw" 113 yX12_revokes ∈ lwg := wu_mem (i := 2047) (by decide +kernel) rfl
theorem kw_2048 : Cond.instanceMethod yX12_revokes ∈ lwg := wu_mem (i := 2048) (by decide +kernel) rfl
theorem kw_2049 : Cond.selects "SignalTableModel" yX12_revokes yX12_revokes ∈ lwg := wu_mem (i := 2049) (by decide +kernel) rfl
theorem kw_2050 : Cond.code yX12_revokes cX12_revokes 7 (some .int) ∈ lwg := wu_mem (i := 2050) (by decide +kernel) rfl
theorem kw_2051 : Cond.methodLink "SignalTableLaw" 88 yX12_says ∈ lwg := wu_mem (i := 2051) (by decide +kernel) rfl
theorem kw_2052 : Cond.instanceMethod yX12_says ∈ lwg := wu_mem (i := 2052) (by decide +kernel) rfl
theorem kw_2053 : Cond.selects "SignalTableModel" yX12_says yX12_says ∈ lwg := wu_mem (i := 2053) (by decide +kernel) rfl
theorem kw_2054 : Cond.code yX12_says cX12_says 6 (some .int) ∈ lwg := wu_mem (i := 2054) (by decide +kernel) rfl
theorem kw_2103 : Cond.methodLink "SignalTableLaw" 92 yX12_canBe ∈ lwg := wu_mem (i := 2103) (by decide +kernel) rfl
theorem kw_2104 : Cond.instanceMethod yX12_canBe ∈ lwg := wu_mem (i := 2104) (by decide +kernel) rfl
theorem kw_2105 : Cond.selects "SignalTableModel" yX12_canBe yX12_canBe ∈ lwg := wu_mem (i := 2105) (by decide +kernel) rfl
theorem kw_2106 : Cond.code yX12_canBe cX12_canBe 3 (some .int) ∈ lwg := wu_mem (i := 2106) (by decide +kernel) rfl
theorem kw_2139 : Cond.methodLink "SignalTableLaw" 105 yX12_after ∈ lwg := wu_mem (i := 2139) (by decide +kernel) rfl
theorem kw_2140 : Cond.instanceMethod yX12_after ∈ lwg := wu_mem (i := 2140) (by decide +kernel) rfl
theorem kw_2141 : Cond.selects "SignalTableModel" yX12_after yX12_after ∈ lwg := wu_mem (i := 2141) (by decide +kernel) rfl
theorem kw_2142 : Cond.code yX12_after cX12_after 4 (some .int) ∈ lwg := wu_mem (i := 2142) (by decide +kernel) rfl
theorem kw_2143 : Cond.methodLink "SignalTableLaw" 97 yX12_had ∈ lwg := wu_mem (i := 2143) (by decide +kernel) rfl
theorem kw_2144 : Cond.instanceMethod yX12_had ∈ lwg := wu_mem (i := 2144) (by decide +kernel) rfl
theorem kw_2145 : Cond.selects "SignalTableModel" yX12_had yX12_had ∈ lwg := wu_mem (i := 2145) (by decide +kernel) rfl
theorem kw_2146 : Cond.code yX12_had cX12_had 6 (some .int) ∈ lwg := wu_mem (i := 2146) (by decide +kernel) rfl
theorem kw_2147 : Cond.methodLink "SignalTableLaw" 101 yX12_sure ∈ lwg := wu_mem (i := 2147) (by decide +kernel) rfl
theorem kw_2148 : Cond.instanceMethod yX12_sure ∈ lwg := wu_mem (i := 2148) (by decide +kernel) rfl
theorem kw_2149 : Cond.selects "SignalTableModel" yX12_sure yX12_sure ∈ lwg := wu_mem (i := 2149) (by decide +kernel) rfl
theorem kw_2150 : Cond.code yX12_sure cX12_sure 3 (some .int) ∈ lwg := wu_mem (i := 2150) (by decide +kernel) rfl
theorem kw_2155 : Cond.methodLink "SignalTableLaw" 109 yX12_knows ∈ lwg := wu_mem (i := 2155) (by decide +kernel) rfl
theorem kw_2156 : Cond.instanceMethod yX12_knows ∈ lwg := wu_mem (i := 2156) (by decide +kernel) rfl
theorem kw_2157 : Cond.selects "SignalTableModel" yX12_knows yX12_knows ∈ lwg := wu_mem (i := 2157) (by decide +kernel) rfl
theorem kw_2158 : Cond.code yX12_knows cX12_knows 8 (some .int) ∈ lwg := wu_mem (i := 2158) (by decide +kernel) rfl
theorem kw_2163 : Cond.methodLink "SignalTableLaw" 117 yX12_open ∈ lwg := wu_mem (i := 2163) (by decide +kernel) rfl
theorem kw_2164 : Cond.instanceMethod yX12_open ∈ lwg := wu_mem (i := 2164) (by decide +kernel) rfl
theorem kw_2165 : Cond.selects "SignalTableModel" yX12_open yX12_open ∈ lwg := wu_mem (i := 2165) (by decide +kernel) rfl
theorem kw_2166 : Cond.code yX12_open cX12_open 1 (some .int) ∈ lwg := wu_mem (i := 2166) (by decide +kernel) rfl
theorem kw_2214 : Cond.methodLink "SignalTableLaw" 121 yX12_line ∈ lwg := wu_mem (i := 2214) (by decide +kernel) rfl
theorem kw_2215 : Cond.instanceMethod yX12_line ∈ lwg := wu_mem (i := 2215) (by decide +kernel) rfl
theorem kw_2216 : Cond.selects "SignalTableModel" yX12_line yX12_line ∈ lwg := wu_mem (i := 2216) (by decide +kernel) rfl
theorem kw_2217 : Cond.code yX12_line cX12_line 8 (some .int) ∈ lwg := wu_mem (i := 2217) (by decide +kernel) rfl
theorem kw_2222 : Cond.methodLink "SignalTableLaw" 126 yX12_mean ∈ lwg := wu_mem (i := 2222) (by decide +kernel) rfl
theorem kw_2223 : Cond.instanceMethod yX12_mean ∈ lwg := wu_mem (i := 2223) (by decide +kernel) rfl
theorem kw_2224 : Cond.selects "SignalTableModel" yX12_mean yX12_mean ∈ lwg := wu_mem (i := 2224) (by decide +kernel) rfl
theorem kw_2225 : Cond.code yX12_mean cX12_mean 3 (some .long) ∈ lwg := wu_mem (i := 2225) (by decide +kernel) rfl
theorem kw_2247 : Cond.methodLink "SignalTableLaw" 130 yX12_choice ∈ lwg := wu_mem (i := 2247) (by decide +kernel) rfl
theorem kw_2248 : Cond.instanceMethod yX12_choice ∈ lwg := wu_mem (i := 2248) (by decide +kernel) rfl
theorem kw_2249 : Cond.selects "SignalTableModel" yX12_choice yX12_choice ∈ lwg := wu_mem (i := 2249) (by decide +kernel) rfl
theorem kw_2250 : Cond.code yX12_choice cX12_choice 2 (some .int) ∈ lwg := wu_mem (i := 2250) (by decide +kernel) rfl
theorem kw_2255 : Cond.methodLink "SignalTableLaw" 134 yX12_spread ∈ lwg := wu_mem (i := 2255) (by decide +kernel) rfl
theorem kw_2256 : Cond.instanceMethod yX12_spread ∈ lwg := wu_mem (i := 2256) (by decide +kernel) rfl
theorem kw_2257 : Cond.selects "SignalTableModel" yX12_spread yX12_spread ∈ lwg := wu_mem (i := 2257) (by decide +kernel) rfl
theorem kw_2258 : Cond.code yX12_spread cX12_spread 4 (some .int) ∈ lwg := wu_mem (i := 2258) (by decide +kernel) rfl
theorem kw_2259 : Cond.methodLink "SignalTableLaw" 138 yX12_safe ∈ lwg := wu_mem (i := 2259) (by decide +kernel) rfl
theorem kw_2260 : Cond.instanceMethod yX12_safe ∈ lwg := wu_mem (i := 2260) (by decide +kernel) rfl
theorem kw_2261 : Cond.selects "SignalTableModel" yX12_safe yX12_safe ∈ lwg := wu_mem (i := 2261) (by decide +kernel) rfl
theorem kw_2262 : Cond.code yX12_safe cX12_safe 5 (some .int) ∈ lwg := wu_mem (i := 2262) (by decide +kernel) rfl
theorem kw_2263 : Cond.methodLink "SignalTableLaw" 142 yX12_loss ∈ lwg := wu_mem (i := 2263) (by decide +kernel) rfl
theorem kw_2264 : Cond.instanceMethod yX12_loss ∈ lwg := wu_mem (i := 2264) (by decide +kernel) rfl
theorem kw_2265 : Cond.selects "SignalTableModel" yX12_loss yX12_loss ∈ lwg := wu_mem (i := 2265) (by decide +kernel) rfl
theorem kw_2266 : Cond.code yX12_loss cX12_loss 2 (some .int) ∈ lwg := wu_mem (i := 2266) (by decide +kernel) rfl
theorem kw_2271 : Cond.methodLink "SignalTableLaw" 146 yX12_differs ∈ lwg := wu_mem (i := 2271) (by decide +kernel) rfl
theorem kw_2272 : Cond.instanceMethod yX12_differs ∈ lwg := wu_mem (i := 2272) (by decide +kernel) rfl
theorem kw_2273 : Cond.selects "SignalTableModel" yX12_differs yX12_differs ∈ lwg := wu_mem (i := 2273) (by decide +kernel) rfl
theorem kw_2274 : Cond.code yX12_differs cX12_differs 5 (some .int) ∈ lwg := wu_mem (i := 2274) (by decide +kernel) rfl
theorem kw_2275 : Cond.methodLink "SignalTableLaw" 150 yX12_lies ∈ lwg := wu_mem (i := 2275) (by decide +kernel) rfl
theorem kw_2276 : Cond.instanceMethod yX12_lies ∈ lwg := wu_mem (i := 2276) (by decide +kernel) rfl
theorem kw_2277 : Cond.selects "SignalTableModel" yX12_lies yX12_lies ∈ lwg := wu_mem (i := 2277) (by decide +kernel) rfl
theorem kw_2278 : Cond.code yX12_lies cX12_lies 2 (some .int) ∈ lwg := wu_mem (i := 2278) (by decide +kernel) rfl
theorem kw_2283 : Cond.methodLink "SignalTableLaw" 155 yX12_worth ∈ lwg := wu_mem (i := 2283) (by decide +kernel) rfl
theorem kw_2284 : Cond.instanceMethod yX12_worth ∈ lwg := wu_mem (i := 2284) (by decide +kernel) rfl
theorem kw_2285 : Cond.selects "SignalTableModel" yX12_worth yX12_worth ∈ lwg := wu_mem (i := 2285) (by decide +kernel) rfl
theorem kw_2286 : Cond.code yX12_worth cX12_worth 4 (some .long) ∈ lwg := wu_mem (i := 2286) (by decide +kernel) rfl
theorem kw_2288 : Cond.methodLink "SignalTableLaw" 159 yX12_gain ∈ lwg := wu_mem (i := 2288) (by decide +kernel) rfl
theorem kw_2289 : Cond.instanceMethod yX12_gain ∈ lwg := wu_mem (i := 2289) (by decide +kernel) rfl
theorem kw_2290 : Cond.selects "SignalTableModel" yX12_gain yX12_gain ∈ lwg := wu_mem (i := 2290) (by decide +kernel) rfl
theorem kw_2291 : Cond.code yX12_gain cX12_gain 5 (some .int) ∈ lwg := wu_mem (i := 2291) (by decide +kernel) rfl
theorem kw_2314 : Cond.methodLink "SignalTableLaw" 163 yX12_bestSet ∈ lwg := wu_mem (i := 2314) (by decide +kernel) rfl
theorem kw_2315 : Cond.instanceMethod yX12_bestSet ∈ lwg := wu_mem (i := 2315) (by decide +kernel) rfl
theorem kw_2316 : Cond.selects "SignalTableModel" yX12_bestSet yX12_bestSet ∈ lwg := wu_mem (i := 2316) (by decide +kernel) rfl
theorem kw_2317 : Cond.code yX12_bestSet cX12_bestSet 9 (some .int) ∈ lwg := wu_mem (i := 2317) (by decide +kernel) rfl
theorem kw_2318 : Cond.methodLink "SignalTableLaw" 167 yX12_book ∈ lwg := wu_mem (i := 2318) (by decide +kernel) rfl
theorem kw_2319 : Cond.instanceMethod yX12_book ∈ lwg := wu_mem (i := 2319) (by decide +kernel) rfl
theorem kw_2320 : Cond.selects "SignalTableModel" yX12_book yX12_book ∈ lwg := wu_mem (i := 2320) (by decide +kernel) rfl
theorem kw_2321 : Cond.code yX12_book cX12_book 7 (some .int) ∈ lwg := wu_mem (i := 2321) (by decide +kernel) rfl
theorem kw_2322 : Cond.methodLink "SignalTableLaw" 171 yX12_kept ∈ lwg := wu_mem (i := 2322) (by decide +kernel) rfl
theorem kw_2323 : Cond.instanceMethod yX12_kept ∈ lwg := wu_mem (i := 2323) (by decide +kernel) rfl
theorem kw_2324 : Cond.selects "SignalTableModel" yX12_kept yX12_kept ∈ lwg := wu_mem (i := 2324) (by decide +kernel) rfl
theorem kw_2325 : Cond.code yX12_kept cX12_kept 4 (some .int) ∈ lwg := wu_mem (i := 2325) (by decide +kernel) rfl
theorem kw_2330 : Cond.methodLink "SignalTableLaw" 175 yX12_told ∈ lwg := wu_mem (i := 2330) (by decide +kernel) rfl
theorem kw_2331 : Cond.instanceMethod yX12_told ∈ lwg := wu_mem (i := 2331) (by decide +kernel) rfl
theorem kw_2332 : Cond.selects "SignalTableModel" yX12_told yX12_told ∈ lwg := wu_mem (i := 2332) (by decide +kernel) rfl
theorem kw_2333 : Cond.code yX12_told cX12_told 4 (some .int) ∈ lwg := wu_mem (i := 2333) (by decide +kernel) rfl
theorem kw_2338 : Cond.methodLink "SignalTableLaw" 179 yX12_openings ∈ lwg := wu_mem (i := 2338) (by decide +kernel) rfl
theorem kw_2339 : Cond.instanceMethod yX12_openings ∈ lwg := wu_mem (i := 2339) (by decide +kernel) rfl
theorem kw_2340 : Cond.selects "SignalTableModel" yX12_openings yX12_openings ∈ lwg := wu_mem (i := 2340) (by decide +kernel) rfl
theorem kw_2341 : Cond.code yX12_openings cX12_openings 3 (some .int) ∈ lwg := wu_mem (i := 2341) (by decide +kernel) rfl
theorem kw_2354 : Cond.methodLink "SignalTableLaw" 183 yX12_quarrel ∈ lwg := wu_mem (i := 2354) (by decide +kernel) rfl
theorem kw_2355 : Cond.instanceMethod yX12_quarrel ∈ lwg := wu_mem (i := 2355) (by decide +kernel) rfl
theorem kw_2356 : Cond.selects "SignalTableModel" yX12_quarrel yX12_quarrel ∈ lwg := wu_mem (i := 2356) (by decide +kernel) rfl
theorem kw_2357 : Cond.code yX12_quarrel cX12_quarrel 3 (some .int) ∈ lwg := wu_mem (i := 2357) (by decide +kernel) rfl
theorem kw_2358 : Cond.methodLink "SignalTableLaw" 187 yX12_gap ∈ lwg := wu_mem (i := 2358) (by decide +kernel) rfl
theorem kw_2359 : Cond.instanceMethod yX12_gap ∈ lwg := wu_mem (i := 2359) (by decide +kernel) rfl
theorem kw_2360 : Cond.selects "SignalTableModel" yX12_gap yX12_gap ∈ lwg := wu_mem (i := 2360) (by decide +kernel) rfl
theorem kw_2361 : Cond.code yX12_gap cX12_gap 1 (some .int) ∈ lwg := wu_mem (i := 2361) (by decide +kernel) rfl
theorem kw_2362 : Cond.methodLink "SignalTableLaw" 191 yX12_hold ∈ lwg := wu_mem (i := 2362) (by decide +kernel) rfl
theorem kw_2363 : Cond.instanceMethod yX12_hold ∈ lwg := wu_mem (i := 2363) (by decide +kernel) rfl
theorem kw_2364 : Cond.selects "SignalTableModel" yX12_hold yX12_hold ∈ lwg := wu_mem (i := 2364) (by decide +kernel) rfl
theorem kw_2365 : Cond.code yX12_hold cX12_hold 3 (some .boolean) ∈ lwg := wu_mem (i := 2365) (by decide +kernel) rfl
theorem kw_2366 : Cond.methodLink "SignalTableLaw" 195 yX12_restore ∈ lwg := wu_mem (i := 2366) (by decide +kernel) rfl
theorem kw_2367 : Cond.instanceMethod yX12_restore ∈ lwg := wu_mem (i := 2367) (by decide +kernel) rfl
theorem kw_2368 : Cond.selects "SignalTableModel" yX12_restore yX12_restore ∈ lwg := wu_mem (i := 2368) (by decide +kernel) rfl
theorem kw_2369 : Cond.code yX12_restore cX12_restore 3 (some .boolean) ∈ lwg := wu_mem (i := 2369) (by decide +kernel) rfl
theorem kw_2370 : Cond.methodLink "SignalTableLaw" 199 yX12_count ∈ lwg := wu_mem (i := 2370) (by decide +kernel) rfl
theorem kw_2371 : Cond.instanceMethod yX12_count ∈ lwg := wu_mem (i := 2371) (by decide +kernel) rfl
theorem kw_2372 : Cond.selects "SignalTableModel" yX12_count yX12_count ∈ lwg := wu_mem (i := 2372) (by decide +kernel) rfl
theorem kw_2373 : Cond.code yX12_count cX12_count 2 (some .int) ∈ lwg := wu_mem (i := 2373) (by decide +kernel) rfl
theorem caV_SignalTableLaw_13 : CaV "SignalTableLaw" RX11 13 yX11_feed cX11_feed 6 (some .int) 5 := ⟨kw_750, kw_751, kw_752, kw_154, kw_753, rfl, by decide +kernel, by decide +kernel, by decide +kernel⟩
theorem caV_SignalTableLaw_17 : CaV "SignalTableLaw" RX12 17 yX12_feed cX12_feed 6 (some .int) 5 := ⟨kw_1801, kw_1802, kw_1803, kw_171, kw_1804, rfl, by decide +kernel, by decide +kernel, by decide +kernel⟩
theorem caV_SignalTableLaw_18 : CaV "SignalTableLaw" RX11 18 yX11_back cX11_back 2 (some .int) 1 := ⟨kw_758, kw_759, kw_760, kw_154, kw_761, rfl, by decide +kernel, by decide +kernel, by decide +kernel⟩
theorem caV_SignalTableLaw_22 : CaV "SignalTableLaw" RX12 22 yX12_back cX12_back 2 (some .int) 1 := ⟨kw_1809, kw_1810, kw_1811, kw_171, kw_1812, rfl, by decide +kernel, by decide +kernel, by decide +kernel⟩
theorem caV_SignalTableLaw_23 : CaV "SignalTableLaw" RX11 23 yX11_read cX11_read 2 (some .int) 0 := ⟨kw_762, kw_763, kw_764, kw_154, kw_765, rfl, by decide +kernel, by decide +kernel, by decide +kernel⟩
theorem caV_SignalTableLaw_27 : CaV "SignalTableLaw" RX12 27 yX12_read cX12_read 2 (some .int) 0 := ⟨kw_1813, kw_1814, kw_1815, kw_171, kw_1816, rfl, by decide +kernel, by decide +kernel, by decide +kernel⟩
theorem caV_SignalTableLaw_28 : CaV "SignalTableLaw" RX11 28 yX11_place cX11_place 1 (some .int) 0 := ⟨kw_900, kw_901, kw_902, kw_154, kw_903, rfl, by decide +kernel, by decide +kernel, by decide +kernel⟩
theorem caV_SignalTableLaw_31 : CaV "SignalTableLaw" RX12 31 yX12_place cX12_place 1 (some .int) 0 := ⟨kw_1898, kw_1899, kw_1900, kw_171, kw_1901, rfl, by decide +kernel, by decide +kernel, by decide +kernel⟩
theorem caV_SignalTableLaw_32 : CaV "SignalTableLaw" RX11 32 yX11_deal cX11_deal 2 (some .boolean) 1 := ⟨kw_904, kw_905, kw_906, kw_154, kw_907, rfl, by decide +kernel, by decide +kernel, by decide +kernel⟩
theorem caV_SignalTableLaw_36 : CaV "SignalTableLaw" RX12 36 yX12_deal cX12_deal 5 (some .boolean) 1 := ⟨kw_1902, kw_1903, kw_1904, kw_171, kw_1905, rfl, by decide +kernel, by decide +kernel, by decide +kernel⟩
theorem caV_SignalTableLaw_37 : CaV "SignalTableLaw" RX11 37 yX11_hands cX11_hands 5 (some .boolean) 3 := ⟨kw_931, kw_932, kw_933, kw_154, kw_934, rfl, by decide +kernel, by decide +kernel, by decide +kernel⟩
theorem caV_SignalTableLaw_41 : CaV "SignalTableLaw" RX12 41 yX12_hands cX12_hands 5 (some .boolean) 3 := ⟨kw_1925, kw_1926, kw_1927, kw_171, kw_1928, rfl, by decide +kernel, by decide +kernel, by decide +kernel⟩
theorem caV_SignalTableLaw_42 : CaV "SignalTableLaw" RX11 42 yX11_lead cX11_lead 2 (some .boolean) 1 := ⟨kw_950, kw_951, kw_952, kw_154, kw_953, rfl, by decide +kernel, by decide +kernel, by decide +kernel⟩
theorem caV_SignalTableLaw_45 : CaV "SignalTableLaw" RX12 45 yX12_lead cX12_lead 2 (some .boolean) 1 := ⟨kw_1932, kw_1933, kw_1934, kw_171, kw_1935, rfl, by decide +kernel, by decide +kernel, by decide +kernel⟩
theorem caV_SignalTableLaw_46 : CaV "SignalTableLaw" RX11 46 yX11_hand cX11_hand 3 (some .int) 2 := ⟨kw_959, kw_960, kw_961, kw_154, kw_962, rfl, by decide +kernel, by decide +kernel, by decide +kernel⟩
theorem caV_SignalTableLaw_50 : CaV "SignalTableLaw" RX12 50 yX12_hand cX12_hand 3 (some .int) 2 := ⟨kw_1939, kw_1940, kw_1941, kw_171, kw_1942, rfl, by decide +kernel, by decide +kernel, by decide +kernel⟩
theorem caV_SignalTableLaw_51 : CaV "SignalTableLaw" RX11 51 yX11_turn cX11_turn 1 (some .int) 0 := ⟨kw_963, kw_964, kw_965, kw_154, kw_966, rfl, by decide +kernel, by decide +kernel, by decide +kernel⟩
theorem caV_SignalTableLaw_54 : CaV "SignalTableLaw" RX12 54 yX12_turn cX12_turn 1 (some .int) 0 := ⟨kw_1951, kw_1952, kw_1953, kw_171, kw_1954, rfl, by decide +kernel, by decide +kernel, by decide +kernel⟩
theorem caV_SignalTableLaw_55 : CaV "SignalTableLaw" RX11 55 yX11_may cX11_may 1 (some .int) 0 := ⟨kw_967, kw_968, kw_969, kw_154, kw_970, rfl, by decide +kernel, by decide +kernel, by decide +kernel⟩
theorem caV_SignalTableLaw_58 : CaV "SignalTableLaw" RX12 58 yX12_may cX12_may 1 (some .int) 0 := ⟨kw_1975, kw_1976, kw_1977, kw_171, kw_1978, rfl, by decide +kernel, by decide +kernel, by decide +kernel⟩
theorem caV_SignalTableLaw_59 : CaV "SignalTableLaw" RX11 59 yX11_play cX11_play 2 (some .int) 1 := ⟨kw_979, kw_980, kw_981, kw_154, kw_982, rfl, by decide +kernel, by decide +kernel, by decide +kernel⟩
theorem caV_SignalTableLaw_62 : CaV "SignalTableLaw" RX12 62 yX12_play cX12_play 2 (some .int) 1 := ⟨kw_1991, kw_1992, kw_1993, kw_171, kw_1994, rfl, by decide +kernel, by decide +kernel, by decide +kernel⟩
theorem caV_SignalTableLaw_63 : CaV "SignalTableLaw" RX11 63 yX11_revoke cX11_revoke 2 (some .int) 1 := ⟨kw_1045, kw_1046, kw_1047, kw_154, kw_1048, rfl, by decide +kernel, by decide +kernel, by decide +kernel⟩
theorem caV_SignalTableLaw_66 : CaV "SignalTableLaw" RX12 66 yX12_revoke cX12_revoke 2 (some .int) 1 := ⟨kw_2007, kw_2008, kw_2009, kw_171, kw_2010, rfl, by decide +kernel, by decide +kernel, by decide +kernel⟩
theorem caV_SignalTableLaw_67 : CaV "SignalTableLaw" RX11 67 yX11_undo cX11_undo 1 (some .int) 0 := ⟨kw_1049, kw_1050, kw_1051, kw_154, kw_1052, rfl, by decide +kernel, by decide +kernel, by decide +kernel⟩
theorem caV_SignalTableLaw_70 : CaV "SignalTableLaw" RX12 70 yX12_undo cX12_undo 1 (some .int) 0 := ⟨kw_2011, kw_2012, kw_2013, kw_171, kw_2014, rfl, by decide +kernel, by decide +kernel, by decide +kernel⟩
theorem caV_SignalTableLaw_71 : CaV "SignalTableLaw" RX11 71 yX11_card cX11_card 3 (some .int) 2 := ⟨kw_1057, kw_1058, kw_1059, kw_154, kw_1060, rfl, by decide +kernel, by decide +kernel, by decide +kernel⟩
theorem caV_SignalTableLaw_75 : CaV "SignalTableLaw" RX12 75 yX12_card cX12_card 3 (some .int) 2 := ⟨kw_2015, kw_2016, kw_2017, kw_171, kw_2018, rfl, by decide +kernel, by decide +kernel, by decide +kernel⟩
theorem caV_SignalTableLaw_76 : CaV "SignalTableLaw" RX11 76 yX11_tricks cX11_tricks 2 (some .int) 1 := ⟨kw_1065, kw_1066, kw_1067, kw_154, kw_1068, rfl, by decide +kernel, by decide +kernel, by decide +kernel⟩
theorem caV_SignalTableLaw_79 : CaV "SignalTableLaw" RX12 79 yX12_tricks cX12_tricks 4 (some .int) 1 := ⟨kw_2039, kw_2040, kw_2041, kw_171, kw_2042, rfl, by decide +kernel, by decide +kernel, by decide +kernel⟩
theorem caV_SignalTableLaw_80 : CaV "SignalTableLaw" RX11 80 yX11_winner cX11_winner 2 (some .int) 1 := ⟨kw_1073, kw_1074, kw_1075, kw_154, kw_1076, rfl, by decide +kernel, by decide +kernel, by decide +kernel⟩
theorem caV_SignalTableLaw_83 : CaV "SignalTableLaw" RX12 83 yX12_winner cX12_winner 2 (some .int) 1 := ⟨kw_2043, kw_2044, kw_2045, kw_171, kw_2046, rfl, by decide +kernel, by decide +kernel, by decide +kernel⟩
theorem caV_SignalTableLaw_84 : CaV "SignalTableLaw" RX11 84 yX11_says cX11_says 4 (some .int) 3 := ⟨kw_1082, kw_1083, kw_1084, kw_154, kw_1085, rfl, by decide +kernel, by decide +kernel, by decide +kernel⟩
theorem caV_SignalTableLaw_88 : CaV "SignalTableLaw" RX12 88 yX12_says cX12_says 6 (some .int) 3 := ⟨kw_2051, kw_2052, kw_2053, kw_171, kw_2054, rfl, by decide +kernel, by decide +kernel, by decide +kernel⟩
theorem caV_SignalTableLaw_89 : CaV "SignalTableLaw" RX11 89 yX11_canBe cX11_canBe 3 (some .int) 2 := ⟨kw_1090, kw_1091, kw_1092, kw_154, kw_1093, rfl, by decide +kernel, by decide +kernel, by decide +kernel⟩
theorem caV_SignalTableLaw_92 : CaV "SignalTableLaw" RX12 92 yX12_canBe cX12_canBe 3 (some .int) 2 := ⟨kw_2103, kw_2104, kw_2105, kw_171, kw_2106, rfl, by decide +kernel, by decide +kernel, by decide +kernel⟩
theorem caV_SignalTableLaw_93 : CaV "SignalTableLaw" RX11 93 yX11_had cX11_had 5 (some .int) 4 := ⟨kw_1139, kw_1140, kw_1141, kw_154, kw_1142, rfl, by decide +kernel, by decide +kernel, by decide +kernel⟩
theorem caV_SignalTableLaw_97 : CaV "SignalTableLaw" RX12 97 yX12_had cX12_had 6 (some .int) 4 := ⟨kw_2143, kw_2144, kw_2145, kw_171, kw_2146, rfl, by decide +kernel, by decide +kernel, by decide +kernel⟩
theorem caV_SignalTableLaw_98 : CaV "SignalTableLaw" RX11 98 yX11_sure cX11_sure 3 (some .int) 2 := ⟨kw_1147, kw_1148, kw_1149, kw_154, kw_1150, rfl, by decide +kernel, by decide +kernel, by decide +kernel⟩
theorem caV_SignalTableLaw_101 : CaV "SignalTableLaw" RX12 101 yX12_sure cX12_sure 3 (some .int) 2 := ⟨kw_2147, kw_2148, kw_2149, kw_171, kw_2150, rfl, by decide +kernel, by decide +kernel, by decide +kernel⟩
theorem caV_SignalTableLaw_102 : CaV "SignalTableLaw" RX11 102 yX11_after cX11_after 4 (some .int) 3 := ⟨kw_1135, kw_1136, kw_1137, kw_154, kw_1138, rfl, by decide +kernel, by decide +kernel, by decide +kernel⟩
theorem caV_SignalTableLaw_105 : CaV "SignalTableLaw" RX12 105 yX12_after cX12_after 4 (some .int) 3 := ⟨kw_2139, kw_2140, kw_2141, kw_171, kw_2142, rfl, by decide +kernel, by decide +kernel, by decide +kernel⟩
theorem caV_SignalTableLaw_106 : CaV "SignalTableLaw" RX11 106 yX11_knows cX11_knows 6 (some .int) 4 := ⟨kw_1155, kw_1156, kw_1157, kw_154, kw_1158, rfl, by decide +kernel, by decide +kernel, by decide +kernel⟩
theorem caV_SignalTableLaw_109 : CaV "SignalTableLaw" RX12 109 yX12_knows cX12_knows 8 (some .int) 4 := ⟨kw_2155, kw_2156, kw_2157, kw_171, kw_2158, rfl, by decide +kernel, by decide +kernel, by decide +kernel⟩
theorem caV_SignalTableLaw_110 : CaV "SignalTableLaw" RX11 110 yX11_revokes cX11_revokes 7 (some .int) 1 := ⟨kw_1077, kw_1078, kw_1079, kw_154, kw_1080, rfl, by decide +kernel, by decide +kernel, by decide +kernel⟩
theorem caV_SignalTableLaw_113 : CaV "SignalTableLaw" RX12 113 yX12_revokes cX12_revokes 7 (some .int) 1 := ⟨kw_2047, kw_2048, kw_2049, kw_171, kw_2050, rfl, by decide +kernel, by decide +kernel, by decide +kernel⟩
theorem caV_SignalTableLaw_114 : CaV "SignalTableLaw" RX11 114 yX11_open cX11_open 1 (some .int) 0 := ⟨kw_1172, kw_1173, kw_1174, kw_154, kw_1175, rfl, by decide +kernel, by decide +kernel, by decide +kernel⟩
theorem caV_SignalTableLaw_117 : CaV "SignalTableLaw" RX12 117 yX12_open cX12_open 1 (some .int) 0 := ⟨kw_2163, kw_2164, kw_2165, kw_171, kw_2166, rfl, by decide +kernel, by decide +kernel, by decide +kernel⟩
theorem caV_SignalTableLaw_118 : CaV "SignalTableLaw" RX11 118 yX11_line cX11_line 2 (some .int) 1 := ⟨kw_1235, kw_1236, kw_1237, kw_154, kw_1238, rfl, by decide +kernel, by decide +kernel, by decide +kernel⟩
theorem caV_SignalTableLaw_121 : CaV "SignalTableLaw" RX12 121 yX12_line cX12_line 8 (some .int) 1 := ⟨kw_2214, kw_2215, kw_2216, kw_171, kw_2217, rfl, by decide +kernel, by decide +kernel, by decide +kernel⟩
theorem caV_SignalTableLaw_122 : CaV "SignalTableLaw" RX11 122 yX11_mean cX11_mean 4 (some .long) 2 := ⟨kw_1255, kw_1256, kw_1257, kw_154, kw_1258, rfl, by decide +kernel, by decide +kernel, by decide +kernel⟩
theorem caV_SignalTableLaw_126 : CaV "SignalTableLaw" RX12 126 yX12_mean cX12_mean 3 (some .long) 2 := ⟨kw_2222, kw_2223, kw_2224, kw_171, kw_2225, rfl, by decide +kernel, by decide +kernel, by decide +kernel⟩
theorem caV_SignalTableLaw_127 : CaV "SignalTableLaw" RX11 127 yX11_choice cX11_choice 3 (some .int) 1 := ⟨kw_1300, kw_1301, kw_1302, kw_154, kw_1303, rfl, by decide +kernel, by decide +kernel, by decide +kernel⟩
theorem caV_SignalTableLaw_130 : CaV "SignalTableLaw" RX12 130 yX12_choice cX12_choice 2 (some .int) 1 := ⟨kw_2247, kw_2248, kw_2249, kw_171, kw_2250, rfl, by decide +kernel, by decide +kernel, by decide +kernel⟩
theorem caV_SignalTableLaw_131 : CaV "SignalTableLaw" RX11 131 yX11_spread cX11_spread 5 (some .int) 3 := ⟨kw_1315, kw_1316, kw_1317, kw_154, kw_1318, rfl, by decide +kernel, by decide +kernel, by decide +kernel⟩
theorem caV_SignalTableLaw_134 : CaV "SignalTableLaw" RX12 134 yX12_spread cX12_spread 4 (some .int) 3 := ⟨kw_2255, kw_2256, kw_2257, kw_171, kw_2258, rfl, by decide +kernel, by decide +kernel, by decide +kernel⟩
theorem caV_SignalTableLaw_135 : CaV "SignalTableLaw" RX11 135 yX11_safe cX11_safe 5 (some .int) 2 := ⟨kw_1320, kw_1321, kw_1322, kw_154, kw_1323, rfl, by decide +kernel, by decide +kernel, by decide +kernel⟩
theorem caV_SignalTableLaw_138 : CaV "SignalTableLaw" RX12 138 yX12_safe cX12_safe 5 (some .int) 2 := ⟨kw_2259, kw_2260, kw_2261, kw_171, kw_2262, rfl, by decide +kernel, by decide +kernel, by decide +kernel⟩
theorem caV_SignalTableLaw_139 : CaV "SignalTableLaw" RX11 139 yX11_loss cX11_loss 3 (some .int) 1 := ⟨kw_1338, kw_1339, kw_1340, kw_154, kw_1341, rfl, by decide +kernel, by decide +kernel, by decide +kernel⟩
theorem caV_SignalTableLaw_142 : CaV "SignalTableLaw" RX12 142 yX12_loss cX12_loss 2 (some .int) 1 := ⟨kw_2263, kw_2264, kw_2265, kw_171, kw_2266, rfl, by decide +kernel, by decide +kernel, by decide +kernel⟩
theorem caV_SignalTableLaw_143 : CaV "SignalTableLaw" RX11 143 yX11_differs cX11_differs 5 (some .int) 1 := ⟨kw_1347, kw_1348, kw_1349, kw_154, kw_1350, rfl, by decide +kernel, by decide +kernel, by decide +kernel⟩
theorem caV_SignalTableLaw_146 : CaV "SignalTableLaw" RX12 146 yX12_differs cX12_differs 5 (some .int) 1 := ⟨kw_2271, kw_2272, kw_2273, kw_171, kw_2274, rfl, by decide +kernel, by decide +kernel, by decide +kernel⟩
theorem caV_SignalTableLaw_147 : CaV "SignalTableLaw" RX11 147 yX11_lies cX11_lies 2 (some .int) 1 := ⟨kw_1356, kw_1357, kw_1358, kw_154, kw_1359, rfl, by decide +kernel, by decide +kernel, by decide +kernel⟩
theorem caV_SignalTableLaw_150 : CaV "SignalTableLaw" RX12 150 yX12_lies cX12_lies 2 (some .int) 1 := ⟨kw_2275, kw_2276, kw_2277, kw_171, kw_2278, rfl, by decide +kernel, by decide +kernel, by decide +kernel⟩
theorem caV_SignalTableLaw_151 : CaV "SignalTableLaw" RX11 151 yX11_worth cX11_worth 5 (some .long) 1 := ⟨kw_1364, kw_1365, kw_1366, kw_154, kw_1367, rfl, by decide +kernel, by decide +kernel, by decide +kernel⟩
theorem caV_SignalTableLaw_155 : CaV "SignalTableLaw" RX12 155 yX12_worth cX12_worth 4 (some .long) 1 := ⟨kw_2283, kw_2284, kw_2285, kw_171, kw_2286, rfl, by decide +kernel, by decide +kernel, by decide +kernel⟩
theorem caV_SignalTableLaw_156 : CaV "SignalTableLaw" RX11 156 yX11_gain cX11_gain 4 (some .int) 3 := ⟨kw_1375, kw_1376, kw_1377, kw_154, kw_1378, rfl, by decide +kernel, by decide +kernel, by decide +kernel⟩
theorem caV_SignalTableLaw_159 : CaV "SignalTableLaw" RX12 159 yX12_gain cX12_gain 5 (some .int) 3 := ⟨kw_2288, kw_2289, kw_2290, kw_171, kw_2291, rfl, by decide +kernel, by decide +kernel, by decide +kernel⟩
theorem caV_SignalTableLaw_160 : CaV "SignalTableLaw" RX11 160 yX11_bestSet cX11_bestSet 9 (some .int) 3 := ⟨kw_1406, kw_1407, kw_1408, kw_154, kw_1409, rfl, by decide +kernel, by decide +kernel, by decide +kernel⟩
theorem caV_SignalTableLaw_163 : CaV "SignalTableLaw" RX12 163 yX12_bestSet cX12_bestSet 9 (some .int) 3 := ⟨kw_2314, kw_2315, kw_2316, kw_171, kw_2317, rfl, by decide +kernel, by decide +kernel, by decide +kernel⟩
theorem caV_SignalTableLaw_164 : CaV "SignalTableLaw" RX11 164 yX11_book cX11_book 1 (some .int) 0 := ⟨kw_1410, kw_1411, kw_1412, kw_154, kw_1413, rfl, by decide +kernel, by decide +kernel, by decide +kernel⟩
theorem caV_SignalTableLaw_167 : CaV "SignalTableLaw" RX12 167 yX12_book cX12_book 7 (some .int) 0 := ⟨kw_2318, kw_2319, kw_2320, kw_171, kw_2321, rfl, by decide +kernel, by decide +kernel, by decide +kernel⟩
theorem caV_SignalTableLaw_168 : CaV "SignalTableLaw" RX11 168 yX11_kept cX11_kept 4 (some .int) 1 := ⟨kw_1422, kw_1423, kw_1424, kw_154, kw_1425, rfl, by decide +kernel, by decide +kernel, by decide +kernel⟩
theorem caV_SignalTableLaw_171 : CaV "SignalTableLaw" RX12 171 yX12_kept cX12_kept 4 (some .int) 1 := ⟨kw_2322, kw_2323, kw_2324, kw_171, kw_2325, rfl, by decide +kernel, by decide +kernel, by decide +kernel⟩
theorem caV_SignalTableLaw_172 : CaV "SignalTableLaw" RX11 172 yX11_told cX11_told 4 (some .int) 3 := ⟨kw_1433, kw_1434, kw_1435, kw_154, kw_1436, rfl, by decide +kernel, by decide +kernel, by decide +kernel⟩
theorem caV_SignalTableLaw_175 : CaV "SignalTableLaw" RX12 175 yX12_told cX12_told 4 (some .int) 3 := ⟨kw_2330, kw_2331, kw_2332, kw_171, kw_2333, rfl, by decide +kernel, by decide +kernel, by decide +kernel⟩
theorem caV_SignalTableLaw_176 : CaV "SignalTableLaw" RX11 176 yX11_openings cX11_openings 3 (some .int) 2 := ⟨kw_1445, kw_1446, kw_1447, kw_154, kw_1448, rfl, by decide +kernel, by decide +kernel, by decide +kernel⟩
theorem caV_SignalTableLaw_179 : CaV "SignalTableLaw" RX12 179 yX12_openings cX12_openings 3 (some .int) 2 := ⟨kw_2338, kw_2339, kw_2340, kw_171, kw_2341, rfl, by decide +kernel, by decide +kernel, by decide +kernel⟩
theorem caV_SignalTableLaw_180 : CaV "SignalTableLaw" RX11 180 yX11_quarrel cX11_quarrel 3 (some .int) 2 := ⟨kw_1468, kw_1469, kw_1470, kw_154, kw_1471, rfl, by decide +kernel, by decide +kernel, by decide +kernel⟩
theorem caV_SignalTableLaw_183 : CaV "SignalTableLaw" RX12 183 yX12_quarrel cX12_quarrel 3 (some .int) 2 := ⟨kw_2354, kw_2355, kw_2356, kw_171, kw_2357, rfl, by decide +kernel, by decide +kernel, by decide +kernel⟩
theorem caV_SignalTableLaw_184 : CaV "SignalTableLaw" RX11 184 yX11_gap cX11_gap 1 (some .int) 0 := ⟨kw_1476, kw_1477, kw_1478, kw_154, kw_1479, rfl, by decide +kernel, by decide +kernel, by decide +kernel⟩
theorem caV_SignalTableLaw_187 : CaV "SignalTableLaw" RX12 187 yX12_gap cX12_gap 1 (some .int) 0 := ⟨kw_2358, kw_2359, kw_2360, kw_171, kw_2361, rfl, by decide +kernel, by decide +kernel, by decide +kernel⟩
theorem caV_SignalTableLaw_188 : CaV "SignalTableLaw" RX11 188 yX11_hold cX11_hold 2 (some .boolean) 1 := ⟨kw_1484, kw_1485, kw_1486, kw_154, kw_1487, rfl, by decide +kernel, by decide +kernel, by decide +kernel⟩
theorem caV_SignalTableLaw_191 : CaV "SignalTableLaw" RX12 191 yX12_hold cX12_hold 3 (some .boolean) 1 := ⟨kw_2362, kw_2363, kw_2364, kw_171, kw_2365, rfl, by decide +kernel, by decide +kernel, by decide +kernel⟩
theorem caV_SignalTableLaw_192 : CaV "SignalTableLaw" RX11 192 yX11_restore cX11_restore 2 (some .boolean) 1 := ⟨kw_1488, kw_1489, kw_1490, kw_154, kw_1491, rfl, by decide +kernel, by decide +kernel, by decide +kernel⟩
theorem caV_SignalTableLaw_195 : CaV "SignalTableLaw" RX12 195 yX12_restore cX12_restore 3 (some .boolean) 1 := ⟨kw_2366, kw_2367, kw_2368, kw_171, kw_2369, rfl, by decide +kernel, by decide +kernel, by decide +kernel⟩
theorem caV_SignalTableLaw_196 : CaV "SignalTableLaw" RX11 196 yX11_count cX11_count 2 (some .int) 1 := ⟨kw_1492, kw_1493, kw_1494, kw_154, kw_1495, rfl, by decide +kernel, by decide +kernel, by decide +kernel⟩
theorem caV_SignalTableLaw_199 : CaV "SignalTableLaw" RX12 199 yX12_count cX12_count 2 (some .int) 1 := ⟨kw_2370, kw_2371, kw_2372, kw_171, kw_2373, rfl, by decide +kernel, by decide +kernel, by decide +kernel⟩
theorem dL_law_224 : decode code 224 = .ok (.aload_n 1, 1) := by decide +kernel
theorem dL_law_225 : decode code 225 = .ok (.aload_n 0, 1) := by decide +kernel
theorem dL_law_226 : decode code 226 = .ok (.iload_n 3, 1) := by decide +kernel
theorem dL_law_227 : decode code 227 = .ok (.iconst 1, 1) := by decide +kernel
theorem dL_law_228 : decode code 228 = .ok (.iadd, 1) := by decide +kernel
theorem dL_law_229 : decode code 229 = .ok (.iaload, 1) := by decide +kernel
theorem dL_law_230 : decode code 230 = .ok (.aload_n 0, 1) := by decide +kernel
theorem dL_law_231 : decode code 231 = .ok (.iload_n 3, 1) := by decide +kernel
theorem dL_law_232 : decode code 232 = .ok (.iconst 2, 1) := by decide +kernel
theorem dL_law_233 : decode code 233 = .ok (.iadd, 1) := by decide +kernel
theorem dL_law_234 : decode code 234 = .ok (.iaload, 1) := by decide +kernel
theorem dL_law_235 : decode code 235 = .ok (.aload_n 0, 1) := by decide +kernel
theorem dL_law_236 : decode code 236 = .ok (.iload_n 3, 1) := by decide +kernel
theorem dL_law_237 : decode code 237 = .ok (.iconst 3, 1) := by decide +kernel
theorem dL_law_238 : decode code 238 = .ok (.iadd, 1) := by decide +kernel
theorem dL_law_239 : decode code 239 = .ok (.iaload, 1) := by decide +kernel
theorem dL_law_240 : decode code 240 = .ok (.aload_n 0, 1) := by decide +kernel
theorem dL_law_241 : decode code 241 = .ok (.iload_n 3, 1) := by decide +kernel
theorem dL_law_242 : decode code 242 = .ok (.iconst 4, 1) := by decide +kernel
theorem dL_law_243 : decode code 243 = .ok (.iadd, 1) := by decide +kernel
theorem dL_law_244 : decode code 244 = .ok (.iaload, 1) := by decide +kernel
theorem dL_law_245 : decode code 245 = .ok (.aload_n 0, 1) := by decide +kernel
theorem dL_law_246 : decode code 246 = .ok (.iload_n 3, 1) := by decide +kernel
theorem dL_law_247 : decode code 247 = .ok (.iconst 5, 1) := by decide +kernel
theorem dL_law_248 : decode code 248 = .ok (.iadd, 1) := by decide +kernel
theorem dL_law_249 : decode code 249 = .ok (.iaload, 1) := by decide +kernel
theorem dL_law_250 : decode code 250 = .ok (.invokevirtual 13, 3) := by decide +kernel
theorem dL_law_253 : decode code 253 = .ok (.pop, 1) := by decide +kernel
theorem dL_law_254 : decode code 254 = .ok (.aload_n 2, 1) := by decide +kernel
theorem dL_law_255 : decode code 255 = .ok (.aload_n 0, 1) := by decide +kernel
theorem dL_law_256 : decode code 256 = .ok (.iload_n 3, 1) := by decide +kernel
theorem dL_law_257 : decode code 257 = .ok (.iconst 1, 1) := by decide +kernel
theorem dL_law_258 : decode code 258 = .ok (.iadd, 1) := by decide +kernel
theorem dL_law_259 : decode code 259 = .ok (.iaload, 1) := by decide +kernel
theorem dL_law_260 : decode code 260 = .ok (.aload_n 0, 1) := by decide +kernel
theorem dL_law_261 : decode code 261 = .ok (.iload_n 3, 1) := by decide +kernel
theorem dL_law_262 : decode code 262 = .ok (.iconst 2, 1) := by decide +kernel
theorem dL_law_263 : decode code 263 = .ok (.iadd, 1) := by decide +kernel
theorem dL_law_264 : decode code 264 = .ok (.iaload, 1) := by decide +kernel
theorem dL_law_265 : decode code 265 = .ok (.aload_n 0, 1) := by decide +kernel
theorem dL_law_266 : decode code 266 = .ok (.iload_n 3, 1) := by decide +kernel
theorem dL_law_267 : decode code 267 = .ok (.iconst 3, 1) := by decide +kernel
theorem dL_law_268 : decode code 268 = .ok (.iadd, 1) := by decide +kernel
theorem dL_law_269 : decode code 269 = .ok (.iaload, 1) := by decide +kernel
theorem dL_law_270 : decode code 270 = .ok (.aload_n 0, 1) := by decide +kernel
theorem dL_law_271 : decode code 271 = .ok (.iload_n 3, 1) := by decide +kernel
theorem dL_law_272 : decode code 272 = .ok (.iconst 4, 1) := by decide +kernel
theorem dL_law_273 : decode code 273 = .ok (.iadd, 1) := by decide +kernel
theorem dL_law_274 : decode code 274 = .ok (.iaload, 1) := by decide +kernel
theorem dL_law_275 : decode code 275 = .ok (.aload_n 0, 1) := by decide +kernel
theorem dL_law_276 : decode code 276 = .ok (.iload_n 3, 1) := by decide +kernel
theorem dL_law_277 : decode code 277 = .ok (.iconst 5, 1) := by decide +kernel
theorem dL_law_278 : decode code 278 = .ok (.iadd, 1) := by decide +kernel
theorem dL_law_279 : decode code 279 = .ok (.iaload, 1) := by decide +kernel
theorem dL_law_280 : decode code 280 = .ok (.invokevirtual 17, 3) := by decide +kernel
theorem dL_law_283 : decode code 283 = .ok (.pop, 1) := by decide +kernel
theorem dL_law_284 : decode code 284 = .ok (.goto 1208, 3) := by decide +kernel
theorem dL_law_287 : decode code 287 = .ok (.aload_n 1, 1) := by decide +kernel
theorem dL_law_288 : decode code 288 = .ok (.aload_n 0, 1) := by decide +kernel
theorem dL_law_289 : decode code 289 = .ok (.iload_n 3, 1) := by decide +kernel
theorem dL_law_290 : decode code 290 = .ok (.iconst 1, 1) := by decide +kernel
theorem dL_law_291 : decode code 291 = .ok (.iadd, 1) := by decide +kernel
theorem dL_law_292 : decode code 292 = .ok (.iaload, 1) := by decide +kernel
theorem dL_law_293 : decode code 293 = .ok (.invokevirtual 18, 3) := by decide +kernel
theorem dL_law_296 : decode code 296 = .ok (.pop, 1) := by decide +kernel
theorem dL_law_297 : decode code 297 = .ok (.aload_n 2, 1) := by decide +kernel
theorem dL_law_298 : decode code 298 = .ok (.aload_n 0, 1) := by decide +kernel
theorem dL_law_299 : decode code 299 = .ok (.iload_n 3, 1) := by decide +kernel
theorem dL_law_300 : decode code 300 = .ok (.iconst 1, 1) := by decide +kernel
theorem dL_law_301 : decode code 301 = .ok (.iadd, 1) := by decide +kernel
theorem dL_law_302 : decode code 302 = .ok (.iaload, 1) := by decide +kernel
theorem dL_law_303 : decode code 303 = .ok (.invokevirtual 22, 3) := by decide +kernel
theorem dL_law_306 : decode code 306 = .ok (.pop, 1) := by decide +kernel
theorem dL_law_307 : decode code 307 = .ok (.goto 1185, 3) := by decide +kernel
theorem dL_law_310 : decode code 310 = .ok (.aload_n 1, 1) := by decide +kernel
theorem dL_law_311 : decode code 311 = .ok (.invokevirtual 23, 3) := by decide +kernel
theorem dL_law_314 : decode code 314 = .ok (.pop, 1) := by decide +kernel
theorem dL_law_315 : decode code 315 = .ok (.aload_n 2, 1) := by decide +kernel
theorem dL_law_316 : decode code 316 = .ok (.invokevirtual 27, 3) := by decide +kernel
theorem dL_law_319 : decode code 319 = .ok (.pop, 1) := by decide +kernel
theorem dL_law_320 : decode code 320 = .ok (.goto 1172, 3) := by decide +kernel
theorem dL_law_323 : decode code 323 = .ok (.aload_n 1, 1) := by decide +kernel
theorem dL_law_324 : decode code 324 = .ok (.invokevirtual 28, 3) := by decide +kernel
theorem dL_law_327 : decode code 327 = .ok (.pop, 1) := by decide +kernel
theorem dL_law_328 : decode code 328 = .ok (.aload_n 2, 1) := by decide +kernel
theorem dL_law_329 : decode code 329 = .ok (.invokevirtual 31, 3) := by decide +kernel
theorem dL_law_332 : decode code 332 = .ok (.pop, 1) := by decide +kernel
theorem dL_law_333 : decode code 333 = .ok (.goto 1159, 3) := by decide +kernel
theorem dL_law_336 : decode code 336 = .ok (.aload_n 1, 1) := by decide +kernel
theorem dL_law_337 : decode code 337 = .ok (.aload_n 0, 1) := by decide +kernel
theorem dL_law_338 : decode code 338 = .ok (.iload_n 3, 1) := by decide +kernel
theorem dL_law_339 : decode code 339 = .ok (.iconst 1, 1) := by decide +kernel
theorem dL_law_340 : decode code 340 = .ok (.iadd, 1) := by decide +kernel
theorem dL_law_341 : decode code 341 = .ok (.iaload, 1) := by decide +kernel
theorem dL_law_342 : decode code 342 = .ok (.invokevirtual 32, 3) := by decide +kernel
theorem dL_law_345 : decode code 345 = .ok (.pop, 1) := by decide +kernel
theorem dL_law_346 : decode code 346 = .ok (.aload_n 2, 1) := by decide +kernel
theorem dL_law_347 : decode code 347 = .ok (.aload_n 0, 1) := by decide +kernel
theorem dL_law_348 : decode code 348 = .ok (.iload_n 3, 1) := by decide +kernel
theorem dL_law_349 : decode code 349 = .ok (.iconst 1, 1) := by decide +kernel
theorem dL_law_350 : decode code 350 = .ok (.iadd, 1) := by decide +kernel
theorem dL_law_351 : decode code 351 = .ok (.iaload, 1) := by decide +kernel
theorem dL_law_352 : decode code 352 = .ok (.invokevirtual 36, 3) := by decide +kernel
theorem dL_law_355 : decode code 355 = .ok (.pop, 1) := by decide +kernel
theorem dL_law_356 : decode code 356 = .ok (.goto 1136, 3) := by decide +kernel
theorem dL_law_359 : decode code 359 = .ok (.aload_n 1, 1) := by decide +kernel
theorem dL_law_360 : decode code 360 = .ok (.aload_n 0, 1) := by decide +kernel
theorem dL_law_361 : decode code 361 = .ok (.iload_n 3, 1) := by decide +kernel
theorem dL_law_362 : decode code 362 = .ok (.iconst 1, 1) := by decide +kernel
theorem dL_law_363 : decode code 363 = .ok (.iadd, 1) := by decide +kernel
theorem dL_law_364 : decode code 364 = .ok (.iaload, 1) := by decide +kernel
theorem dL_law_365 : decode code 365 = .ok (.aload_n 0, 1) := by decide +kernel
theorem dL_law_366 : decode code 366 = .ok (.iload_n 3, 1) := by decide +kernel
theorem dL_law_367 : decode code 367 = .ok (.iconst 2, 1) := by decide +kernel
theorem dL_law_368 : decode code 368 = .ok (.iadd, 1) := by decide +kernel
theorem dL_law_369 : decode code 369 = .ok (.iaload, 1) := by decide +kernel
theorem dL_law_370 : decode code 370 = .ok (.aload_n 0, 1) := by decide +kernel
theorem dL_law_371 : decode code 371 = .ok (.iload_n 3, 1) := by decide +kernel
theorem dL_law_372 : decode code 372 = .ok (.iconst 3, 1) := by decide +kernel
theorem dL_law_373 : decode code 373 = .ok (.iadd, 1) := by decide +kernel
theorem dL_law_374 : decode code 374 = .ok (.iaload, 1) := by decide +kernel
theorem dL_law_375 : decode code 375 = .ok (.invokevirtual 37, 3) := by decide +kernel
theorem dL_law_378 : decode code 378 = .ok (.pop, 1) := by decide +kernel
theorem dL_law_379 : decode code 379 = .ok (.aload_n 2, 1) := by decide +kernel
theorem dL_law_380 : decode code 380 = .ok (.aload_n 0, 1) := by decide +kernel
theorem dL_law_381 : decode code 381 = .ok (.iload_n 3, 1) := by decide +kernel
theorem dL_law_382 : decode code 382 = .ok (.iconst 1, 1) := by decide +kernel
theorem dL_law_383 : decode code 383 = .ok (.iadd, 1) := by decide +kernel
theorem dL_law_384 : decode code 384 = .ok (.iaload, 1) := by decide +kernel
theorem dL_law_385 : decode code 385 = .ok (.aload_n 0, 1) := by decide +kernel
theorem dL_law_386 : decode code 386 = .ok (.iload_n 3, 1) := by decide +kernel
theorem dL_law_387 : decode code 387 = .ok (.iconst 2, 1) := by decide +kernel
theorem dL_law_388 : decode code 388 = .ok (.iadd, 1) := by decide +kernel
theorem dL_law_389 : decode code 389 = .ok (.iaload, 1) := by decide +kernel
theorem dL_law_390 : decode code 390 = .ok (.aload_n 0, 1) := by decide +kernel
theorem dL_law_391 : decode code 391 = .ok (.iload_n 3, 1) := by decide +kernel
theorem dL_law_392 : decode code 392 = .ok (.iconst 3, 1) := by decide +kernel
theorem dL_law_393 : decode code 393 = .ok (.iadd, 1) := by decide +kernel
theorem dL_law_394 : decode code 394 = .ok (.iaload, 1) := by decide +kernel
theorem dL_law_395 : decode code 395 = .ok (.invokevirtual 41, 3) := by decide +kernel
theorem dL_law_398 : decode code 398 = .ok (.pop, 1) := by decide +kernel
theorem dL_law_399 : decode code 399 = .ok (.goto 1093, 3) := by decide +kernel
theorem dL_law_402 : decode code 402 = .ok (.aload_n 1, 1) := by decide +kernel
theorem dL_law_403 : decode code 403 = .ok (.aload_n 0, 1) := by decide +kernel
theorem dL_law_404 : decode code 404 = .ok (.iload_n 3, 1) := by decide +kernel
theorem dL_law_405 : decode code 405 = .ok (.iconst 1, 1) := by decide +kernel
theorem dL_law_406 : decode code 406 = .ok (.iadd, 1) := by decide +kernel
theorem dL_law_407 : decode code 407 = .ok (.iaload, 1) := by decide +kernel
theorem dL_law_408 : decode code 408 = .ok (.invokevirtual 42, 3) := by decide +kernel
theorem dL_law_411 : decode code 411 = .ok (.pop, 1) := by decide +kernel
theorem dL_law_412 : decode code 412 = .ok (.aload_n 2, 1) := by decide +kernel
theorem dL_law_413 : decode code 413 = .ok (.aload_n 0, 1) := by decide +kernel
theorem dL_law_414 : decode code 414 = .ok (.iload_n 3, 1) := by decide +kernel
theorem dL_law_415 : decode code 415 = .ok (.iconst 1, 1) := by decide +kernel
theorem dL_law_416 : decode code 416 = .ok (.iadd, 1) := by decide +kernel
theorem dL_law_417 : decode code 417 = .ok (.iaload, 1) := by decide +kernel
theorem dL_law_418 : decode code 418 = .ok (.invokevirtual 45, 3) := by decide +kernel
theorem dL_law_421 : decode code 421 = .ok (.pop, 1) := by decide +kernel
theorem dL_law_422 : decode code 422 = .ok (.goto 1070, 3) := by decide +kernel
theorem dL_law_425 : decode code 425 = .ok (.aload_n 1, 1) := by decide +kernel
theorem dL_law_426 : decode code 426 = .ok (.aload_n 0, 1) := by decide +kernel
theorem dL_law_427 : decode code 427 = .ok (.iload_n 3, 1) := by decide +kernel
theorem dL_law_428 : decode code 428 = .ok (.iconst 1, 1) := by decide +kernel
theorem dL_law_429 : decode code 429 = .ok (.iadd, 1) := by decide +kernel
theorem dL_law_430 : decode code 430 = .ok (.iaload, 1) := by decide +kernel
theorem dL_law_431 : decode code 431 = .ok (.aload_n 0, 1) := by decide +kernel
theorem dL_law_432 : decode code 432 = .ok (.iload_n 3, 1) := by decide +kernel
theorem dL_law_433 : decode code 433 = .ok (.iconst 2, 1) := by decide +kernel
theorem dL_law_434 : decode code 434 = .ok (.iadd, 1) := by decide +kernel
theorem dL_law_435 : decode code 435 = .ok (.iaload, 1) := by decide +kernel
theorem dL_law_436 : decode code 436 = .ok (.ifCond .eq 7, 3) := by decide +kernel
theorem dL_law_439 : decode code 439 = .ok (.iconst 1, 1) := by decide +kernel
theorem dL_law_440 : decode code 440 = .ok (.goto 4, 3) := by decide +kernel
theorem dL_law_443 : decode code 443 = .ok (.iconst 0, 1) := by decide +kernel
theorem dL_law_444 : decode code 444 = .ok (.invokevirtual 46, 3) := by decide +kernel
theorem dL_law_447 : decode code 447 = .ok (.pop, 1) := by decide +kernel
theorem dL_law_448 : decode code 448 = .ok (.aload_n 2, 1) := by decide +kernel
theorem dL_law_449 : decode code 449 = .ok (.aload_n 0, 1) := by decide +kernel
theorem dL_law_450 : decode code 450 = .ok (.iload_n 3, 1) := by decide +kernel
theorem dL_law_451 : decode code 451 = .ok (.iconst 1, 1) := by decide +kernel
theorem dL_law_452 : decode code 452 = .ok (.iadd, 1) := by decide +kernel
theorem dL_law_453 : decode code 453 = .ok (.iaload, 1) := by decide +kernel
theorem dL_law_454 : decode code 454 = .ok (.aload_n 0, 1) := by decide +kernel
theorem dL_law_455 : decode code 455 = .ok (.iload_n 3, 1) := by decide +kernel
theorem dL_law_456 : decode code 456 = .ok (.iconst 2, 1) := by decide +kernel
theorem dL_law_457 : decode code 457 = .ok (.iadd, 1) := by decide +kernel
theorem dL_law_458 : decode code 458 = .ok (.iaload, 1) := by decide +kernel
theorem dL_law_459 : decode code 459 = .ok (.ifCond .eq 7, 3) := by decide +kernel
theorem dL_law_462 : decode code 462 = .ok (.iconst 1, 1) := by decide +kernel
theorem dL_law_463 : decode code 463 = .ok (.goto 4, 3) := by decide +kernel
theorem dL_law_466 : decode code 466 = .ok (.iconst 0, 1) := by decide +kernel
theorem dL_law_467 : decode code 467 = .ok (.invokevirtual 50, 3) := by decide +kernel
theorem dL_law_470 : decode code 470 = .ok (.pop, 1) := by decide +kernel
theorem dL_law_471 : decode code 471 = .ok (.goto 1021, 3) := by decide +kernel
theorem dL_law_474 : decode code 474 = .ok (.aload_n 1, 1) := by decide +kernel
theorem dL_law_475 : decode code 475 = .ok (.invokevirtual 51, 3) := by decide +kernel
theorem dL_law_478 : decode code 478 = .ok (.pop, 1) := by decide +kernel
theorem dL_law_479 : decode code 479 = .ok (.aload_n 2, 1) := by decide +kernel
theorem dL_law_480 : decode code 480 = .ok (.invokevirtual 54, 3) := by decide +kernel
theorem dL_law_483 : decode code 483 = .ok (.pop, 1) := by decide +kernel
theorem dL_law_484 : decode code 484 = .ok (.goto 1008, 3) := by decide +kernel
theorem dL_law_487 : decode code 487 = .ok (.aload_n 1, 1) := by decide +kernel
theorem dL_law_488 : decode code 488 = .ok (.invokevirtual 55, 3) := by decide +kernel
theorem dL_law_491 : decode code 491 = .ok (.pop, 1) := by decide +kernel
theorem dL_law_492 : decode code 492 = .ok (.aload_n 2, 1) := by decide +kernel
theorem dL_law_493 : decode code 493 = .ok (.invokevirtual 58, 3) := by decide +kernel
theorem dL_law_496 : decode code 496 = .ok (.pop, 1) := by decide +kernel
theorem dL_law_497 : decode code 497 = .ok (.goto 995, 3) := by decide +kernel
theorem dL_law_500 : decode code 500 = .ok (.aload_n 1, 1) := by decide +kernel
theorem dL_law_501 : decode code 501 = .ok (.aload_n 0, 1) := by decide +kernel
theorem dL_law_502 : decode code 502 = .ok (.iload_n 3, 1) := by decide +kernel
theorem dL_law_503 : decode code 503 = .ok (.iconst 1, 1) := by decide +kernel
theorem dL_law_504 : decode code 504 = .ok (.iadd, 1) := by decide +kernel
theorem dL_law_505 : decode code 505 = .ok (.iaload, 1) := by decide +kernel
theorem dL_law_506 : decode code 506 = .ok (.invokevirtual 59, 3) := by decide +kernel
theorem dL_law_509 : decode code 509 = .ok (.aload_n 2, 1) := by decide +kernel
theorem dL_law_510 : decode code 510 = .ok (.aload_n 0, 1) := by decide +kernel
theorem dL_law_511 : decode code 511 = .ok (.iload_n 3, 1) := by decide +kernel
theorem dL_law_512 : decode code 512 = .ok (.iconst 1, 1) := by decide +kernel
theorem dL_law_513 : decode code 513 = .ok (.iadd, 1) := by decide +kernel
theorem dL_law_514 : decode code 514 = .ok (.iaload, 1) := by decide +kernel
theorem dL_law_515 : decode code 515 = .ok (.invokevirtual 62, 3) := by decide +kernel
theorem dL_law_518 : decode code 518 = .ok (.if_icmp .eq 974, 3) := by decide +kernel
theorem dL_law_523 : decode code 523 = .ok (.aload_n 1, 1) := by decide +kernel
theorem dL_law_524 : decode code 524 = .ok (.aload_n 0, 1) := by decide +kernel
theorem dL_law_525 : decode code 525 = .ok (.iload_n 3, 1) := by decide +kernel
theorem dL_law_526 : decode code 526 = .ok (.iconst 1, 1) := by decide +kernel
theorem dL_law_527 : decode code 527 = .ok (.iadd, 1) := by decide +kernel
theorem dL_law_528 : decode code 528 = .ok (.iaload, 1) := by decide +kernel
theorem dL_law_529 : decode code 529 = .ok (.invokevirtual 63, 3) := by decide +kernel
theorem dL_law_532 : decode code 532 = .ok (.pop, 1) := by decide +kernel
theorem dL_law_533 : decode code 533 = .ok (.aload_n 2, 1) := by decide +kernel
theorem dL_law_534 : decode code 534 = .ok (.aload_n 0, 1) := by decide +kernel
theorem dL_law_535 : decode code 535 = .ok (.iload_n 3, 1) := by decide +kernel
theorem dL_law_536 : decode code 536 = .ok (.iconst 1, 1) := by decide +kernel
theorem dL_law_537 : decode code 537 = .ok (.iadd, 1) := by decide +kernel
theorem dL_law_538 : decode code 538 = .ok (.iaload, 1) := by decide +kernel
theorem dL_law_539 : decode code 539 = .ok (.invokevirtual 66, 3) := by decide +kernel
theorem dL_law_542 : decode code 542 = .ok (.pop, 1) := by decide +kernel
theorem dL_law_543 : decode code 543 = .ok (.goto 949, 3) := by decide +kernel
theorem dL_law_546 : decode code 546 = .ok (.aload_n 1, 1) := by decide +kernel
theorem dL_law_547 : decode code 547 = .ok (.invokevirtual 67, 3) := by decide +kernel
theorem dL_law_550 : decode code 550 = .ok (.pop, 1) := by decide +kernel
theorem dL_law_551 : decode code 551 = .ok (.aload_n 2, 1) := by decide +kernel
theorem dL_law_552 : decode code 552 = .ok (.invokevirtual 70, 3) := by decide +kernel
theorem dL_law_555 : decode code 555 = .ok (.pop, 1) := by decide +kernel
theorem dL_law_556 : decode code 556 = .ok (.goto 936, 3) := by decide +kernel
theorem dL_law_559 : decode code 559 = .ok (.aload_n 1, 1) := by decide +kernel
theorem dL_law_560 : decode code 560 = .ok (.aload_n 0, 1) := by decide +kernel
theorem dL_law_561 : decode code 561 = .ok (.iload_n 3, 1) := by decide +kernel
theorem dL_law_562 : decode code 562 = .ok (.iconst 1, 1) := by decide +kernel
theorem dL_law_563 : decode code 563 = .ok (.iadd, 1) := by decide +kernel
theorem dL_law_564 : decode code 564 = .ok (.iaload, 1) := by decide +kernel
theorem dL_law_565 : decode code 565 = .ok (.aload_n 0, 1) := by decide +kernel
theorem dL_law_566 : decode code 566 = .ok (.iload_n 3, 1) := by decide +kernel
theorem dL_law_567 : decode code 567 = .ok (.iconst 2, 1) := by decide +kernel
theorem dL_law_568 : decode code 568 = .ok (.iadd, 1) := by decide +kernel
theorem dL_law_569 : decode code 569 = .ok (.iaload, 1) := by decide +kernel
theorem dL_law_570 : decode code 570 = .ok (.invokevirtual 71, 3) := by decide +kernel
theorem dL_law_573 : decode code 573 = .ok (.pop, 1) := by decide +kernel
theorem dL_law_574 : decode code 574 = .ok (.aload_n 2, 1) := by decide +kernel
theorem dL_law_575 : decode code 575 = .ok (.aload_n 0, 1) := by decide +kernel
theorem dL_law_576 : decode code 576 = .ok (.iload_n 3, 1) := by decide +kernel
theorem dL_law_577 : decode code 577 = .ok (.iconst 1, 1) := by decide +kernel
theorem dL_law_578 : decode code 578 = .ok (.iadd, 1) := by decide +kernel
theorem dL_law_579 : decode code 579 = .ok (.iaload, 1) := by decide +kernel
theorem dL_law_580 : decode code 580 = .ok (.aload_n 0, 1) := by decide +kernel
theorem dL_law_581 : decode code 581 = .ok (.iload_n 3, 1) := by decide +kernel
theorem dL_law_582 : decode code 582 = .ok (.iconst 2, 1) := by decide +kernel
theorem dL_law_583 : decode code 583 = .ok (.iadd, 1) := by decide +kernel
theorem dL_law_584 : decode code 584 = .ok (.iaload, 1) := by decide +kernel
theorem dL_law_585 : decode code 585 = .ok (.invokevirtual 75, 3) := by decide +kernel
theorem dL_law_588 : decode code 588 = .ok (.pop, 1) := by decide +kernel
theorem dL_law_589 : decode code 589 = .ok (.goto 903, 3) := by decide +kernel
theorem dL_law_592 : decode code 592 = .ok (.aload_n 1, 1) := by decide +kernel
theorem dL_law_593 : decode code 593 = .ok (.aload_n 0, 1) := by decide +kernel
theorem dL_law_594 : decode code 594 = .ok (.iload_n 3, 1) := by decide +kernel
theorem dL_law_595 : decode code 595 = .ok (.iconst 1, 1) := by decide +kernel
theorem dL_law_596 : decode code 596 = .ok (.iadd, 1) := by decide +kernel
theorem dL_law_597 : decode code 597 = .ok (.iaload, 1) := by decide +kernel
theorem dL_law_598 : decode code 598 = .ok (.invokevirtual 76, 3) := by decide +kernel
theorem dL_law_601 : decode code 601 = .ok (.pop, 1) := by decide +kernel
theorem dL_law_602 : decode code 602 = .ok (.aload_n 2, 1) := by decide +kernel
theorem dL_law_603 : decode code 603 = .ok (.aload_n 0, 1) := by decide +kernel
theorem dL_law_604 : decode code 604 = .ok (.iload_n 3, 1) := by decide +kernel
theorem dL_law_605 : decode code 605 = .ok (.iconst 1, 1) := by decide +kernel
theorem dL_law_606 : decode code 606 = .ok (.iadd, 1) := by decide +kernel
theorem dL_law_607 : decode code 607 = .ok (.iaload, 1) := by decide +kernel
theorem dL_law_608 : decode code 608 = .ok (.invokevirtual 79, 3) := by decide +kernel
theorem dL_law_611 : decode code 611 = .ok (.pop, 1) := by decide +kernel
theorem dL_law_612 : decode code 612 = .ok (.goto 880, 3) := by decide +kernel
theorem dL_law_615 : decode code 615 = .ok (.aload_n 1, 1) := by decide +kernel
theorem dL_law_616 : decode code 616 = .ok (.aload_n 0, 1) := by decide +kernel
theorem dL_law_617 : decode code 617 = .ok (.iload_n 3, 1) := by decide +kernel
theorem dL_law_618 : decode code 618 = .ok (.iconst 1, 1) := by decide +kernel
theorem dL_law_619 : decode code 619 = .ok (.iadd, 1) := by decide +kernel
theorem dL_law_620 : decode code 620 = .ok (.iaload, 1) := by decide +kernel
theorem dL_law_621 : decode code 621 = .ok (.invokevirtual 80, 3) := by decide +kernel
theorem dL_law_624 : decode code 624 = .ok (.pop, 1) := by decide +kernel
theorem dL_law_625 : decode code 625 = .ok (.aload_n 2, 1) := by decide +kernel
theorem dL_law_626 : decode code 626 = .ok (.aload_n 0, 1) := by decide +kernel
theorem dL_law_627 : decode code 627 = .ok (.iload_n 3, 1) := by decide +kernel
theorem dL_law_628 : decode code 628 = .ok (.iconst 1, 1) := by decide +kernel
theorem dL_law_629 : decode code 629 = .ok (.iadd, 1) := by decide +kernel
theorem dL_law_630 : decode code 630 = .ok (.iaload, 1) := by decide +kernel
theorem dL_law_631 : decode code 631 = .ok (.invokevirtual 83, 3) := by decide +kernel
theorem dL_law_634 : decode code 634 = .ok (.pop, 1) := by decide +kernel
theorem dL_law_635 : decode code 635 = .ok (.goto 857, 3) := by decide +kernel
theorem dL_law_638 : decode code 638 = .ok (.aload_n 1, 1) := by decide +kernel
theorem dL_law_639 : decode code 639 = .ok (.aload_n 0, 1) := by decide +kernel
theorem dL_law_640 : decode code 640 = .ok (.iload_n 3, 1) := by decide +kernel
theorem dL_law_641 : decode code 641 = .ok (.iconst 1, 1) := by decide +kernel
theorem dL_law_642 : decode code 642 = .ok (.iadd, 1) := by decide +kernel
theorem dL_law_643 : decode code 643 = .ok (.iaload, 1) := by decide +kernel
theorem dL_law_644 : decode code 644 = .ok (.aload_n 0, 1) := by decide +kernel
theorem dL_law_645 : decode code 645 = .ok (.iload_n 3, 1) := by decide +kernel
theorem dL_law_646 : decode code 646 = .ok (.iconst 2, 1) := by decide +kernel
theorem dL_law_647 : decode code 647 = .ok (.iadd, 1) := by decide +kernel
theorem dL_law_648 : decode code 648 = .ok (.iaload, 1) := by decide +kernel
theorem dL_law_649 : decode code 649 = .ok (.aload_n 0, 1) := by decide +kernel
theorem dL_law_650 : decode code 650 = .ok (.iload_n 3, 1) := by decide +kernel
theorem dL_law_651 : decode code 651 = .ok (.iconst 3, 1) := by decide +kernel
theorem dL_law_652 : decode code 652 = .ok (.iadd, 1) := by decide +kernel
theorem dL_law_653 : decode code 653 = .ok (.iaload, 1) := by decide +kernel
theorem dL_law_654 : decode code 654 = .ok (.invokevirtual 84, 3) := by decide +kernel
theorem dL_law_657 : decode code 657 = .ok (.pop, 1) := by decide +kernel
theorem dL_law_658 : decode code 658 = .ok (.aload_n 2, 1) := by decide +kernel
theorem dL_law_659 : decode code 659 = .ok (.aload_n 0, 1) := by decide +kernel
theorem dL_law_660 : decode code 660 = .ok (.iload_n 3, 1) := by decide +kernel
theorem dL_law_661 : decode code 661 = .ok (.iconst 1, 1) := by decide +kernel
theorem dL_law_662 : decode code 662 = .ok (.iadd, 1) := by decide +kernel
theorem dL_law_663 : decode code 663 = .ok (.iaload, 1) := by decide +kernel
theorem dL_law_664 : decode code 664 = .ok (.aload_n 0, 1) := by decide +kernel
theorem dL_law_665 : decode code 665 = .ok (.iload_n 3, 1) := by decide +kernel
theorem dL_law_666 : decode code 666 = .ok (.iconst 2, 1) := by decide +kernel
theorem dL_law_667 : decode code 667 = .ok (.iadd, 1) := by decide +kernel
theorem dL_law_668 : decode code 668 = .ok (.iaload, 1) := by decide +kernel
theorem dL_law_669 : decode code 669 = .ok (.aload_n 0, 1) := by decide +kernel
theorem dL_law_670 : decode code 670 = .ok (.iload_n 3, 1) := by decide +kernel
theorem dL_law_671 : decode code 671 = .ok (.iconst 3, 1) := by decide +kernel
theorem dL_law_672 : decode code 672 = .ok (.iadd, 1) := by decide +kernel
theorem dL_law_673 : decode code 673 = .ok (.iaload, 1) := by decide +kernel
theorem dL_law_674 : decode code 674 = .ok (.invokevirtual 88, 3) := by decide +kernel
theorem dL_law_677 : decode code 677 = .ok (.pop, 1) := by decide +kernel
theorem dL_law_678 : decode code 678 = .ok (.goto 814, 3) := by decide +kernel
theorem dL_law_681 : decode code 681 = .ok (.aload_n 1, 1) := by decide +kernel
theorem dL_law_682 : decode code 682 = .ok (.aload_n 0, 1) := by decide +kernel
theorem dL_law_683 : decode code 683 = .ok (.iload_n 3, 1) := by decide +kernel
theorem dL_law_684 : decode code 684 = .ok (.iconst 1, 1) := by decide +kernel
theorem dL_law_685 : decode code 685 = .ok (.iadd, 1) := by decide +kernel
theorem dL_law_686 : decode code 686 = .ok (.iaload, 1) := by decide +kernel
theorem dL_law_687 : decode code 687 = .ok (.aload_n 0, 1) := by decide +kernel
theorem dL_law_688 : decode code 688 = .ok (.iload_n 3, 1) := by decide +kernel
theorem dL_law_689 : decode code 689 = .ok (.iconst 2, 1) := by decide +kernel
theorem dL_law_690 : decode code 690 = .ok (.iadd, 1) := by decide +kernel
theorem dL_law_691 : decode code 691 = .ok (.iaload, 1) := by decide +kernel
theorem dL_law_692 : decode code 692 = .ok (.invokevirtual 89, 3) := by decide +kernel
theorem dL_law_695 : decode code 695 = .ok (.pop, 1) := by decide +kernel
theorem dL_law_696 : decode code 696 = .ok (.aload_n 2, 1) := by decide +kernel
theorem dL_law_697 : decode code 697 = .ok (.aload_n 0, 1) := by decide +kernel
theorem dL_law_698 : decode code 698 = .ok (.iload_n 3, 1) := by decide +kernel
theorem dL_law_699 : decode code 699 = .ok (.iconst 1, 1) := by decide +kernel
theorem dL_law_700 : decode code 700 = .ok (.iadd, 1) := by decide +kernel
theorem dL_law_701 : decode code 701 = .ok (.iaload, 1) := by decide +kernel
theorem dL_law_702 : decode code 702 = .ok (.aload_n 0, 1) := by decide +kernel
theorem dL_law_703 : decode code 703 = .ok (.iload_n 3, 1) := by decide +kernel
theorem dL_law_704 : decode code 704 = .ok (.iconst 2, 1) := by decide +kernel
theorem dL_law_705 : decode code 705 = .ok (.iadd, 1) := by decide +kernel
theorem dL_law_706 : decode code 706 = .ok (.iaload, 1) := by decide +kernel
theorem dL_law_707 : decode code 707 = .ok (.invokevirtual 92, 3) := by decide +kernel
theorem dL_law_710 : decode code 710 = .ok (.pop, 1) := by decide +kernel
theorem dL_law_711 : decode code 711 = .ok (.goto 781, 3) := by decide +kernel
theorem dL_law_714 : decode code 714 = .ok (.aload_n 1, 1) := by decide +kernel
theorem dL_law_715 : decode code 715 = .ok (.aload_n 0, 1) := by decide +kernel
theorem dL_law_716 : decode code 716 = .ok (.iload_n 3, 1) := by decide +kernel
theorem dL_law_717 : decode code 717 = .ok (.iconst 1, 1) := by decide +kernel
theorem dL_law_718 : decode code 718 = .ok (.iadd, 1) := by decide +kernel
theorem dL_law_719 : decode code 719 = .ok (.iaload, 1) := by decide +kernel
theorem dL_law_720 : decode code 720 = .ok (.aload_n 0, 1) := by decide +kernel
theorem dL_law_721 : decode code 721 = .ok (.iload_n 3, 1) := by decide +kernel
theorem dL_law_722 : decode code 722 = .ok (.iconst 2, 1) := by decide +kernel
theorem dL_law_723 : decode code 723 = .ok (.iadd, 1) := by decide +kernel
theorem dL_law_724 : decode code 724 = .ok (.iaload, 1) := by decide +kernel
theorem dL_law_725 : decode code 725 = .ok (.aload_n 0, 1) := by decide +kernel
theorem dL_law_726 : decode code 726 = .ok (.iload_n 3, 1) := by decide +kernel
theorem dL_law_727 : decode code 727 = .ok (.iconst 3, 1) := by decide +kernel
theorem dL_law_728 : decode code 728 = .ok (.iadd, 1) := by decide +kernel
theorem dL_law_729 : decode code 729 = .ok (.iaload, 1) := by decide +kernel
theorem dL_law_730 : decode code 730 = .ok (.aload_n 0, 1) := by decide +kernel
theorem dL_law_731 : decode code 731 = .ok (.iload_n 3, 1) := by decide +kernel
theorem dL_law_732 : decode code 732 = .ok (.iconst 4, 1) := by decide +kernel
theorem dL_law_733 : decode code 733 = .ok (.iadd, 1) := by decide +kernel
theorem dL_law_734 : decode code 734 = .ok (.iaload, 1) := by decide +kernel
theorem dL_law_735 : decode code 735 = .ok (.invokevirtual 93, 3) := by decide +kernel
theorem dL_law_738 : decode code 738 = .ok (.pop, 1) := by decide +kernel
theorem dL_law_739 : decode code 739 = .ok (.aload_n 2, 1) := by decide +kernel
theorem dL_law_740 : decode code 740 = .ok (.aload_n 0, 1) := by decide +kernel
theorem dL_law_741 : decode code 741 = .ok (.iload_n 3, 1) := by decide +kernel
theorem dL_law_742 : decode code 742 = .ok (.iconst 1, 1) := by decide +kernel
theorem dL_law_743 : decode code 743 = .ok (.iadd, 1) := by decide +kernel
theorem dL_law_744 : decode code 744 = .ok (.iaload, 1) := by decide +kernel
theorem dL_law_745 : decode code 745 = .ok (.aload_n 0, 1) := by decide +kernel
theorem dL_law_746 : decode code 746 = .ok (.iload_n 3, 1) := by decide +kernel
theorem dL_law_747 : decode code 747 = .ok (.iconst 2, 1) := by decide +kernel
theorem dL_law_748 : decode code 748 = .ok (.iadd, 1) := by decide +kernel
theorem dL_law_749 : decode code 749 = .ok (.iaload, 1) := by decide +kernel
theorem dL_law_750 : decode code 750 = .ok (.aload_n 0, 1) := by decide +kernel
theorem dL_law_751 : decode code 751 = .ok (.iload_n 3, 1) := by decide +kernel
theorem dL_law_752 : decode code 752 = .ok (.iconst 3, 1) := by decide +kernel
theorem dL_law_753 : decode code 753 = .ok (.iadd, 1) := by decide +kernel
theorem dL_law_754 : decode code 754 = .ok (.iaload, 1) := by decide +kernel
theorem dL_law_755 : decode code 755 = .ok (.aload_n 0, 1) := by decide +kernel
theorem dL_law_756 : decode code 756 = .ok (.iload_n 3, 1) := by decide +kernel
theorem dL_law_757 : decode code 757 = .ok (.iconst 4, 1) := by decide +kernel
theorem dL_law_758 : decode code 758 = .ok (.iadd, 1) := by decide +kernel
theorem dL_law_759 : decode code 759 = .ok (.iaload, 1) := by decide +kernel
theorem dL_law_760 : decode code 760 = .ok (.invokevirtual 97, 3) := by decide +kernel
theorem dL_law_763 : decode code 763 = .ok (.pop, 1) := by decide +kernel
theorem dL_law_764 : decode code 764 = .ok (.goto 728, 3) := by decide +kernel
theorem dL_law_767 : decode code 767 = .ok (.aload_n 1, 1) := by decide +kernel
theorem dL_law_768 : decode code 768 = .ok (.aload_n 0, 1) := by decide +kernel
theorem dL_law_769 : decode code 769 = .ok (.iload_n 3, 1) := by decide +kernel
theorem dL_law_770 : decode code 770 = .ok (.iconst 1, 1) := by decide +kernel
theorem dL_law_771 : decode code 771 = .ok (.iadd, 1) := by decide +kernel
theorem dL_law_772 : decode code 772 = .ok (.iaload, 1) := by decide +kernel
theorem dL_law_773 : decode code 773 = .ok (.aload_n 0, 1) := by decide +kernel
theorem dL_law_774 : decode code 774 = .ok (.iload_n 3, 1) := by decide +kernel
theorem dL_law_775 : decode code 775 = .ok (.iconst 2, 1) := by decide +kernel
theorem dL_law_776 : decode code 776 = .ok (.iadd, 1) := by decide +kernel
theorem dL_law_777 : decode code 777 = .ok (.iaload, 1) := by decide +kernel
theorem dL_law_778 : decode code 778 = .ok (.invokevirtual 98, 3) := by decide +kernel
theorem dL_law_781 : decode code 781 = .ok (.pop, 1) := by decide +kernel
theorem dL_law_782 : decode code 782 = .ok (.aload_n 2, 1) := by decide +kernel
theorem dL_law_783 : decode code 783 = .ok (.aload_n 0, 1) := by decide +kernel
theorem dL_law_784 : decode code 784 = .ok (.iload_n 3, 1) := by decide +kernel
theorem dL_law_785 : decode code 785 = .ok (.iconst 1, 1) := by decide +kernel
theorem dL_law_786 : decode code 786 = .ok (.iadd, 1) := by decide +kernel
theorem dL_law_787 : decode code 787 = .ok (.iaload, 1) := by decide +kernel
theorem dL_law_788 : decode code 788 = .ok (.aload_n 0, 1) := by decide +kernel
theorem dL_law_789 : decode code 789 = .ok (.iload_n 3, 1) := by decide +kernel
theorem dL_law_790 : decode code 790 = .ok (.iconst 2, 1) := by decide +kernel
theorem dL_law_791 : decode code 791 = .ok (.iadd, 1) := by decide +kernel
theorem dL_law_792 : decode code 792 = .ok (.iaload, 1) := by decide +kernel
theorem dL_law_793 : decode code 793 = .ok (.invokevirtual 101, 3) := by decide +kernel
theorem dL_law_796 : decode code 796 = .ok (.pop, 1) := by decide +kernel
theorem dL_law_797 : decode code 797 = .ok (.goto 695, 3) := by decide +kernel
theorem dL_law_800 : decode code 800 = .ok (.aload_n 1, 1) := by decide +kernel
theorem dL_law_801 : decode code 801 = .ok (.aload_n 0, 1) := by decide +kernel
theorem dL_law_802 : decode code 802 = .ok (.iload_n 3, 1) := by decide +kernel
theorem dL_law_803 : decode code 803 = .ok (.iconst 1, 1) := by decide +kernel
theorem dL_law_804 : decode code 804 = .ok (.iadd, 1) := by decide +kernel
theorem dL_law_805 : decode code 805 = .ok (.iaload, 1) := by decide +kernel
theorem dL_law_806 : decode code 806 = .ok (.aload_n 0, 1) := by decide +kernel
theorem dL_law_807 : decode code 807 = .ok (.iload_n 3, 1) := by decide +kernel
theorem dL_law_808 : decode code 808 = .ok (.iconst 2, 1) := by decide +kernel
theorem dL_law_809 : decode code 809 = .ok (.iadd, 1) := by decide +kernel
theorem dL_law_810 : decode code 810 = .ok (.iaload, 1) := by decide +kernel
theorem dL_law_811 : decode code 811 = .ok (.aload_n 0, 1) := by decide +kernel
theorem dL_law_812 : decode code 812 = .ok (.iload_n 3, 1) := by decide +kernel
theorem dL_law_813 : decode code 813 = .ok (.iconst 3, 1) := by decide +kernel
theorem dL_law_814 : decode code 814 = .ok (.iadd, 1) := by decide +kernel
theorem dL_law_815 : decode code 815 = .ok (.iaload, 1) := by decide +kernel
theorem dL_law_816 : decode code 816 = .ok (.invokevirtual 102, 3) := by decide +kernel
theorem dL_law_819 : decode code 819 = .ok (.pop, 1) := by decide +kernel
theorem dL_law_820 : decode code 820 = .ok (.aload_n 2, 1) := by decide +kernel
theorem dL_law_821 : decode code 821 = .ok (.aload_n 0, 1) := by decide +kernel
theorem dL_law_822 : decode code 822 = .ok (.iload_n 3, 1) := by decide +kernel
theorem dL_law_823 : decode code 823 = .ok (.iconst 1, 1) := by decide +kernel
theorem dL_law_824 : decode code 824 = .ok (.iadd, 1) := by decide +kernel
theorem dL_law_825 : decode code 825 = .ok (.iaload, 1) := by decide +kernel
theorem dL_law_826 : decode code 826 = .ok (.aload_n 0, 1) := by decide +kernel
theorem dL_law_827 : decode code 827 = .ok (.iload_n 3, 1) := by decide +kernel
theorem dL_law_828 : decode code 828 = .ok (.iconst 2, 1) := by decide +kernel
theorem dL_law_829 : decode code 829 = .ok (.iadd, 1) := by decide +kernel
theorem dL_law_830 : decode code 830 = .ok (.iaload, 1) := by decide +kernel
theorem dL_law_831 : decode code 831 = .ok (.aload_n 0, 1) := by decide +kernel
theorem dL_law_832 : decode code 832 = .ok (.iload_n 3, 1) := by decide +kernel
theorem dL_law_833 : decode code 833 = .ok (.iconst 3, 1) := by decide +kernel
theorem dL_law_834 : decode code 834 = .ok (.iadd, 1) := by decide +kernel
theorem dL_law_835 : decode code 835 = .ok (.iaload, 1) := by decide +kernel
theorem dL_law_836 : decode code 836 = .ok (.invokevirtual 105, 3) := by decide +kernel
theorem dL_law_839 : decode code 839 = .ok (.pop, 1) := by decide +kernel
theorem dL_law_840 : decode code 840 = .ok (.goto 652, 3) := by decide +kernel
theorem dL_law_843 : decode code 843 = .ok (.aload_n 1, 1) := by decide +kernel
theorem dL_law_844 : decode code 844 = .ok (.aload_n 0, 1) := by decide +kernel
theorem dL_law_845 : decode code 845 = .ok (.iload_n 3, 1) := by decide +kernel
theorem dL_law_846 : decode code 846 = .ok (.iconst 1, 1) := by decide +kernel
theorem dL_law_847 : decode code 847 = .ok (.iadd, 1) := by decide +kernel
theorem dL_law_848 : decode code 848 = .ok (.iaload, 1) := by decide +kernel
theorem dL_law_849 : decode code 849 = .ok (.aload_n 0, 1) := by decide +kernel
theorem dL_law_850 : decode code 850 = .ok (.iload_n 3, 1) := by decide +kernel
theorem dL_law_851 : decode code 851 = .ok (.iconst 2, 1) := by decide +kernel
theorem dL_law_852 : decode code 852 = .ok (.iadd, 1) := by decide +kernel
theorem dL_law_853 : decode code 853 = .ok (.iaload, 1) := by decide +kernel
theorem dL_law_854 : decode code 854 = .ok (.aload_n 0, 1) := by decide +kernel
theorem dL_law_855 : decode code 855 = .ok (.iload_n 3, 1) := by decide +kernel
theorem dL_law_856 : decode code 856 = .ok (.iconst 3, 1) := by decide +kernel
theorem dL_law_857 : decode code 857 = .ok (.iadd, 1) := by decide +kernel
theorem dL_law_858 : decode code 858 = .ok (.iaload, 1) := by decide +kernel
theorem dL_law_859 : decode code 859 = .ok (.aload_n 0, 1) := by decide +kernel
theorem dL_law_860 : decode code 860 = .ok (.iload_n 3, 1) := by decide +kernel
theorem dL_law_861 : decode code 861 = .ok (.iconst 4, 1) := by decide +kernel
theorem dL_law_862 : decode code 862 = .ok (.iadd, 1) := by decide +kernel
theorem dL_law_863 : decode code 863 = .ok (.iaload, 1) := by decide +kernel
theorem dL_law_864 : decode code 864 = .ok (.invokevirtual 106, 3) := by decide +kernel
theorem dL_law_867 : decode code 867 = .ok (.pop, 1) := by decide +kernel
theorem dL_law_868 : decode code 868 = .ok (.aload_n 2, 1) := by decide +kernel
theorem dL_law_869 : decode code 869 = .ok (.aload_n 0, 1) := by decide +kernel
theorem dL_law_870 : decode code 870 = .ok (.iload_n 3, 1) := by decide +kernel
theorem dL_law_871 : decode code 871 = .ok (.iconst 1, 1) := by decide +kernel
theorem dL_law_872 : decode code 872 = .ok (.iadd, 1) := by decide +kernel
theorem dL_law_873 : decode code 873 = .ok (.iaload, 1) := by decide +kernel
theorem dL_law_874 : decode code 874 = .ok (.aload_n 0, 1) := by decide +kernel
theorem dL_law_875 : decode code 875 = .ok (.iload_n 3, 1) := by decide +kernel
theorem dL_law_876 : decode code 876 = .ok (.iconst 2, 1) := by decide +kernel
theorem dL_law_877 : decode code 877 = .ok (.iadd, 1) := by decide +kernel
theorem dL_law_878 : decode code 878 = .ok (.iaload, 1) := by decide +kernel
theorem dL_law_879 : decode code 879 = .ok (.aload_n 0, 1) := by decide +kernel
theorem dL_law_880 : decode code 880 = .ok (.iload_n 3, 1) := by decide +kernel
theorem dL_law_881 : decode code 881 = .ok (.iconst 3, 1) := by decide +kernel
theorem dL_law_882 : decode code 882 = .ok (.iadd, 1) := by decide +kernel
theorem dL_law_883 : decode code 883 = .ok (.iaload, 1) := by decide +kernel
theorem dL_law_884 : decode code 884 = .ok (.aload_n 0, 1) := by decide +kernel
theorem dL_law_885 : decode code 885 = .ok (.iload_n 3, 1) := by decide +kernel
theorem dL_law_886 : decode code 886 = .ok (.iconst 4, 1) := by decide +kernel
theorem dL_law_887 : decode code 887 = .ok (.iadd, 1) := by decide +kernel
theorem dL_law_888 : decode code 888 = .ok (.iaload, 1) := by decide +kernel
theorem dL_law_889 : decode code 889 = .ok (.invokevirtual 109, 3) := by decide +kernel
theorem dL_law_892 : decode code 892 = .ok (.pop, 1) := by decide +kernel
theorem dL_law_893 : decode code 893 = .ok (.goto 599, 3) := by decide +kernel
theorem dL_law_896 : decode code 896 = .ok (.aload_n 1, 1) := by decide +kernel
theorem dL_law_897 : decode code 897 = .ok (.aload_n 0, 1) := by decide +kernel
theorem dL_law_898 : decode code 898 = .ok (.iload_n 3, 1) := by decide +kernel
theorem dL_law_899 : decode code 899 = .ok (.iconst 1, 1) := by decide +kernel
theorem dL_law_900 : decode code 900 = .ok (.iadd, 1) := by decide +kernel
theorem dL_law_901 : decode code 901 = .ok (.iaload, 1) := by decide +kernel
theorem dL_law_902 : decode code 902 = .ok (.invokevirtual 110, 3) := by decide +kernel
theorem dL_law_905 : decode code 905 = .ok (.pop, 1) := by decide +kernel
theorem dL_law_906 : decode code 906 = .ok (.aload_n 2, 1) := by decide +kernel
theorem dL_law_907 : decode code 907 = .ok (.aload_n 0, 1) := by decide +kernel
theorem dL_law_908 : decode code 908 = .ok (.iload_n 3, 1) := by decide +kernel
theorem dL_law_909 : decode code 909 = .ok (.iconst 1, 1) := by decide +kernel
theorem dL_law_910 : decode code 910 = .ok (.iadd, 1) := by decide +kernel
theorem dL_law_911 : decode code 911 = .ok (.iaload, 1) := by decide +kernel
theorem dL_law_912 : decode code 912 = .ok (.invokevirtual 113, 3) := by decide +kernel
theorem dL_law_915 : decode code 915 = .ok (.pop, 1) := by decide +kernel
theorem dL_law_916 : decode code 916 = .ok (.goto 576, 3) := by decide +kernel
theorem dL_law_919 : decode code 919 = .ok (.aload_n 1, 1) := by decide +kernel
theorem dL_law_920 : decode code 920 = .ok (.invokevirtual 114, 3) := by decide +kernel
theorem dL_law_923 : decode code 923 = .ok (.pop, 1) := by decide +kernel
theorem dL_law_924 : decode code 924 = .ok (.aload_n 2, 1) := by decide +kernel
theorem dL_law_925 : decode code 925 = .ok (.invokevirtual 117, 3) := by decide +kernel
theorem dL_law_928 : decode code 928 = .ok (.pop, 1) := by decide +kernel
theorem dL_law_929 : decode code 929 = .ok (.goto 563, 3) := by decide +kernel
theorem dL_law_932 : decode code 932 = .ok (.aload_n 1, 1) := by decide +kernel
theorem dL_law_933 : decode code 933 = .ok (.aload_n 0, 1) := by decide +kernel
theorem dL_law_934 : decode code 934 = .ok (.iload_n 3, 1) := by decide +kernel
theorem dL_law_935 : decode code 935 = .ok (.iconst 1, 1) := by decide +kernel
theorem dL_law_936 : decode code 936 = .ok (.iadd, 1) := by decide +kernel
theorem dL_law_937 : decode code 937 = .ok (.iaload, 1) := by decide +kernel
theorem dL_law_938 : decode code 938 = .ok (.invokevirtual 118, 3) := by decide +kernel
theorem dL_law_941 : decode code 941 = .ok (.pop, 1) := by decide +kernel
theorem dL_law_942 : decode code 942 = .ok (.aload_n 2, 1) := by decide +kernel
theorem dL_law_943 : decode code 943 = .ok (.aload_n 0, 1) := by decide +kernel
theorem dL_law_944 : decode code 944 = .ok (.iload_n 3, 1) := by decide +kernel
theorem dL_law_945 : decode code 945 = .ok (.iconst 1, 1) := by decide +kernel
theorem dL_law_946 : decode code 946 = .ok (.iadd, 1) := by decide +kernel
theorem dL_law_947 : decode code 947 = .ok (.iaload, 1) := by decide +kernel
theorem dL_law_948 : decode code 948 = .ok (.invokevirtual 121, 3) := by decide +kernel
theorem dL_law_951 : decode code 951 = .ok (.pop, 1) := by decide +kernel
theorem dL_law_952 : decode code 952 = .ok (.goto 540, 3) := by decide +kernel
theorem dL_law_955 : decode code 955 = .ok (.aload_n 1, 1) := by decide +kernel
theorem dL_law_956 : decode code 956 = .ok (.aload_n 0, 1) := by decide +kernel
theorem dL_law_957 : decode code 957 = .ok (.iload_n 3, 1) := by decide +kernel
theorem dL_law_958 : decode code 958 = .ok (.iconst 1, 1) := by decide +kernel
theorem dL_law_959 : decode code 959 = .ok (.iadd, 1) := by decide +kernel
theorem dL_law_960 : decode code 960 = .ok (.iaload, 1) := by decide +kernel
theorem dL_law_961 : decode code 961 = .ok (.aload_n 0, 1) := by decide +kernel
theorem dL_law_962 : decode code 962 = .ok (.iload_n 3, 1) := by decide +kernel
theorem dL_law_963 : decode code 963 = .ok (.iconst 2, 1) := by decide +kernel
theorem dL_law_964 : decode code 964 = .ok (.iadd, 1) := by decide +kernel
theorem dL_law_965 : decode code 965 = .ok (.iaload, 1) := by decide +kernel
theorem dL_law_966 : decode code 966 = .ok (.invokevirtual 122, 3) := by decide +kernel
theorem dL_law_969 : decode code 969 = .ok (.pop2, 1) := by decide +kernel
theorem dL_law_970 : decode code 970 = .ok (.aload_n 2, 1) := by decide +kernel
theorem dL_law_971 : decode code 971 = .ok (.aload_n 0, 1) := by decide +kernel
theorem dL_law_972 : decode code 972 = .ok (.iload_n 3, 1) := by decide +kernel
theorem dL_law_973 : decode code 973 = .ok (.iconst 1, 1) := by decide +kernel
theorem dL_law_974 : decode code 974 = .ok (.iadd, 1) := by decide +kernel
theorem dL_law_975 : decode code 975 = .ok (.iaload, 1) := by decide +kernel
theorem dL_law_976 : decode code 976 = .ok (.aload_n 0, 1) := by decide +kernel
theorem dL_law_977 : decode code 977 = .ok (.iload_n 3, 1) := by decide +kernel
theorem dL_law_978 : decode code 978 = .ok (.iconst 2, 1) := by decide +kernel
theorem dL_law_979 : decode code 979 = .ok (.iadd, 1) := by decide +kernel
theorem dL_law_980 : decode code 980 = .ok (.iaload, 1) := by decide +kernel
theorem dL_law_981 : decode code 981 = .ok (.invokevirtual 126, 3) := by decide +kernel
theorem dL_law_984 : decode code 984 = .ok (.pop2, 1) := by decide +kernel
theorem dL_law_985 : decode code 985 = .ok (.goto 507, 3) := by decide +kernel
theorem dL_law_988 : decode code 988 = .ok (.aload_n 1, 1) := by decide +kernel
theorem dL_law_989 : decode code 989 = .ok (.aload_n 0, 1) := by decide +kernel
theorem dL_law_990 : decode code 990 = .ok (.iload_n 3, 1) := by decide +kernel
theorem dL_law_991 : decode code 991 = .ok (.iconst 1, 1) := by decide +kernel
theorem dL_law_992 : decode code 992 = .ok (.iadd, 1) := by decide +kernel
theorem dL_law_993 : decode code 993 = .ok (.iaload, 1) := by decide +kernel
theorem dL_law_994 : decode code 994 = .ok (.invokevirtual 127, 3) := by decide +kernel
theorem dL_law_997 : decode code 997 = .ok (.pop, 1) := by decide +kernel
theorem dL_law_998 : decode code 998 = .ok (.aload_n 2, 1) := by decide +kernel
theorem dL_law_999 : decode code 999 = .ok (.aload_n 0, 1) := by decide +kernel
theorem dL_law_1000 : decode code 1000 = .ok (.iload_n 3, 1) := by decide +kernel
theorem dL_law_1001 : decode code 1001 = .ok (.iconst 1, 1) := by decide +kernel
theorem dL_law_1002 : decode code 1002 = .ok (.iadd, 1) := by decide +kernel
theorem dL_law_1003 : decode code 1003 = .ok (.iaload, 1) := by decide +kernel
theorem dL_law_1004 : decode code 1004 = .ok (.invokevirtual 130, 3) := by decide +kernel
theorem dL_law_1007 : decode code 1007 = .ok (.pop, 1) := by decide +kernel
theorem dL_law_1008 : decode code 1008 = .ok (.goto 484, 3) := by decide +kernel
theorem dL_law_1011 : decode code 1011 = .ok (.aload_n 1, 1) := by decide +kernel
theorem dL_law_1012 : decode code 1012 = .ok (.aload_n 0, 1) := by decide +kernel
theorem dL_law_1013 : decode code 1013 = .ok (.iload_n 3, 1) := by decide +kernel
theorem dL_law_1014 : decode code 1014 = .ok (.iconst 1, 1) := by decide +kernel
theorem dL_law_1015 : decode code 1015 = .ok (.iadd, 1) := by decide +kernel
theorem dL_law_1016 : decode code 1016 = .ok (.iaload, 1) := by decide +kernel
theorem dL_law_1017 : decode code 1017 = .ok (.aload_n 0, 1) := by decide +kernel
theorem dL_law_1018 : decode code 1018 = .ok (.iload_n 3, 1) := by decide +kernel
theorem dL_law_1019 : decode code 1019 = .ok (.iconst 2, 1) := by decide +kernel
theorem dL_law_1020 : decode code 1020 = .ok (.iadd, 1) := by decide +kernel
theorem dL_law_1021 : decode code 1021 = .ok (.iaload, 1) := by decide +kernel
theorem dL_law_1022 : decode code 1022 = .ok (.aload_n 0, 1) := by decide +kernel
theorem dL_law_1023 : decode code 1023 = .ok (.iload_n 3, 1) := by decide +kernel
theorem dL_law_1024 : decode code 1024 = .ok (.iconst 3, 1) := by decide +kernel
theorem dL_law_1025 : decode code 1025 = .ok (.iadd, 1) := by decide +kernel
theorem dL_law_1026 : decode code 1026 = .ok (.iaload, 1) := by decide +kernel
theorem dL_law_1027 : decode code 1027 = .ok (.invokevirtual 131, 3) := by decide +kernel
theorem dL_law_1030 : decode code 1030 = .ok (.pop, 1) := by decide +kernel
theorem dL_law_1031 : decode code 1031 = .ok (.aload_n 2, 1) := by decide +kernel
theorem dL_law_1032 : decode code 1032 = .ok (.aload_n 0, 1) := by decide +kernel
theorem dL_law_1033 : decode code 1033 = .ok (.iload_n 3, 1) := by decide +kernel
theorem dL_law_1034 : decode code 1034 = .ok (.iconst 1, 1) := by decide +kernel
theorem dL_law_1035 : decode code 1035 = .ok (.iadd, 1) := by decide +kernel
theorem dL_law_1036 : decode code 1036 = .ok (.iaload, 1) := by decide +kernel
theorem dL_law_1037 : decode code 1037 = .ok (.aload_n 0, 1) := by decide +kernel
theorem dL_law_1038 : decode code 1038 = .ok (.iload_n 3, 1) := by decide +kernel
theorem dL_law_1039 : decode code 1039 = .ok (.iconst 2, 1) := by decide +kernel
theorem dL_law_1040 : decode code 1040 = .ok (.iadd, 1) := by decide +kernel
theorem dL_law_1041 : decode code 1041 = .ok (.iaload, 1) := by decide +kernel
theorem dL_law_1042 : decode code 1042 = .ok (.aload_n 0, 1) := by decide +kernel
theorem dL_law_1043 : decode code 1043 = .ok (.iload_n 3, 1) := by decide +kernel
theorem dL_law_1044 : decode code 1044 = .ok (.iconst 3, 1) := by decide +kernel
theorem dL_law_1045 : decode code 1045 = .ok (.iadd, 1) := by decide +kernel
theorem dL_law_1046 : decode code 1046 = .ok (.iaload, 1) := by decide +kernel
theorem dL_law_1047 : decode code 1047 = .ok (.invokevirtual 134, 3) := by decide +kernel
theorem dL_law_1050 : decode code 1050 = .ok (.pop, 1) := by decide +kernel
theorem dL_law_1051 : decode code 1051 = .ok (.goto 441, 3) := by decide +kernel
theorem dL_law_1054 : decode code 1054 = .ok (.aload_n 1, 1) := by decide +kernel
theorem dL_law_1055 : decode code 1055 = .ok (.aload_n 0, 1) := by decide +kernel
theorem dL_law_1056 : decode code 1056 = .ok (.iload_n 3, 1) := by decide +kernel
theorem dL_law_1057 : decode code 1057 = .ok (.iconst 1, 1) := by decide +kernel
theorem dL_law_1058 : decode code 1058 = .ok (.iadd, 1) := by decide +kernel
theorem dL_law_1059 : decode code 1059 = .ok (.iaload, 1) := by decide +kernel
theorem dL_law_1060 : decode code 1060 = .ok (.aload_n 0, 1) := by decide +kernel
theorem dL_law_1061 : decode code 1061 = .ok (.iload_n 3, 1) := by decide +kernel
theorem dL_law_1062 : decode code 1062 = .ok (.iconst 2, 1) := by decide +kernel
theorem dL_law_1063 : decode code 1063 = .ok (.iadd, 1) := by decide +kernel
theorem dL_law_1064 : decode code 1064 = .ok (.iaload, 1) := by decide +kernel
theorem dL_law_1065 : decode code 1065 = .ok (.invokevirtual 135, 3) := by decide +kernel
theorem dL_law_1068 : decode code 1068 = .ok (.pop, 1) := by decide +kernel
theorem dL_law_1069 : decode code 1069 = .ok (.aload_n 2, 1) := by decide +kernel
theorem dL_law_1070 : decode code 1070 = .ok (.aload_n 0, 1) := by decide +kernel
theorem dL_law_1071 : decode code 1071 = .ok (.iload_n 3, 1) := by decide +kernel
theorem dL_law_1072 : decode code 1072 = .ok (.iconst 1, 1) := by decide +kernel
theorem dL_law_1073 : decode code 1073 = .ok (.iadd, 1) := by decide +kernel
theorem dL_law_1074 : decode code 1074 = .ok (.iaload, 1) := by decide +kernel
theorem dL_law_1075 : decode code 1075 = .ok (.aload_n 0, 1) := by decide +kernel
theorem dL_law_1076 : decode code 1076 = .ok (.iload_n 3, 1) := by decide +kernel
theorem dL_law_1077 : decode code 1077 = .ok (.iconst 2, 1) := by decide +kernel
theorem dL_law_1078 : decode code 1078 = .ok (.iadd, 1) := by decide +kernel
theorem dL_law_1079 : decode code 1079 = .ok (.iaload, 1) := by decide +kernel
theorem dL_law_1080 : decode code 1080 = .ok (.invokevirtual 138, 3) := by decide +kernel
theorem dL_law_1083 : decode code 1083 = .ok (.pop, 1) := by decide +kernel
theorem dL_law_1084 : decode code 1084 = .ok (.goto 408, 3) := by decide +kernel
theorem dL_law_1087 : decode code 1087 = .ok (.aload_n 1, 1) := by decide +kernel
theorem dL_law_1088 : decode code 1088 = .ok (.aload_n 0, 1) := by decide +kernel
theorem dL_law_1089 : decode code 1089 = .ok (.iload_n 3, 1) := by decide +kernel
theorem dL_law_1090 : decode code 1090 = .ok (.iconst 1, 1) := by decide +kernel
theorem dL_law_1091 : decode code 1091 = .ok (.iadd, 1) := by decide +kernel
theorem dL_law_1092 : decode code 1092 = .ok (.iaload, 1) := by decide +kernel
theorem dL_law_1093 : decode code 1093 = .ok (.invokevirtual 139, 3) := by decide +kernel
theorem dL_law_1096 : decode code 1096 = .ok (.pop, 1) := by decide +kernel
theorem dL_law_1097 : decode code 1097 = .ok (.aload_n 2, 1) := by decide +kernel
theorem dL_law_1098 : decode code 1098 = .ok (.aload_n 0, 1) := by decide +kernel
theorem dL_law_1099 : decode code 1099 = .ok (.iload_n 3, 1) := by decide +kernel
theorem dL_law_1100 : decode code 1100 = .ok (.iconst 1, 1) := by decide +kernel
theorem dL_law_1101 : decode code 1101 = .ok (.iadd, 1) := by decide +kernel
theorem dL_law_1102 : decode code 1102 = .ok (.iaload, 1) := by decide +kernel
theorem dL_law_1103 : decode code 1103 = .ok (.invokevirtual 142, 3) := by decide +kernel
theorem dL_law_1106 : decode code 1106 = .ok (.pop, 1) := by decide +kernel
theorem dL_law_1107 : decode code 1107 = .ok (.goto 385, 3) := by decide +kernel
theorem dL_law_1110 : decode code 1110 = .ok (.aload_n 1, 1) := by decide +kernel
theorem dL_law_1111 : decode code 1111 = .ok (.aload_n 0, 1) := by decide +kernel
theorem dL_law_1112 : decode code 1112 = .ok (.iload_n 3, 1) := by decide +kernel
theorem dL_law_1113 : decode code 1113 = .ok (.iconst 1, 1) := by decide +kernel
theorem dL_law_1114 : decode code 1114 = .ok (.iadd, 1) := by decide +kernel
theorem dL_law_1115 : decode code 1115 = .ok (.iaload, 1) := by decide +kernel
theorem dL_law_1116 : decode code 1116 = .ok (.invokevirtual 143, 3) := by decide +kernel
theorem dL_law_1119 : decode code 1119 = .ok (.pop, 1) := by decide +kernel
theorem dL_law_1120 : decode code 1120 = .ok (.aload_n 2, 1) := by decide +kernel
theorem dL_law_1121 : decode code 1121 = .ok (.aload_n 0, 1) := by decide +kernel
theorem dL_law_1122 : decode code 1122 = .ok (.iload_n 3, 1) := by decide +kernel
theorem dL_law_1123 : decode code 1123 = .ok (.iconst 1, 1) := by decide +kernel
theorem dL_law_1124 : decode code 1124 = .ok (.iadd, 1) := by decide +kernel
theorem dL_law_1125 : decode code 1125 = .ok (.iaload, 1) := by decide +kernel
theorem dL_law_1126 : decode code 1126 = .ok (.invokevirtual 146, 3) := by decide +kernel
theorem dL_law_1129 : decode code 1129 = .ok (.pop, 1) := by decide +kernel
theorem dL_law_1130 : decode code 1130 = .ok (.goto 362, 3) := by decide +kernel
theorem dL_law_1133 : decode code 1133 = .ok (.aload_n 1, 1) := by decide +kernel
theorem dL_law_1134 : decode code 1134 = .ok (.aload_n 0, 1) := by decide +kernel
theorem dL_law_1135 : decode code 1135 = .ok (.iload_n 3, 1) := by decide +kernel
theorem dL_law_1136 : decode code 1136 = .ok (.iconst 1, 1) := by decide +kernel
theorem dL_law_1137 : decode code 1137 = .ok (.iadd, 1) := by decide +kernel
theorem dL_law_1138 : decode code 1138 = .ok (.iaload, 1) := by decide +kernel
theorem dL_law_1139 : decode code 1139 = .ok (.invokevirtual 147, 3) := by decide +kernel
theorem dL_law_1142 : decode code 1142 = .ok (.pop, 1) := by decide +kernel
theorem dL_law_1143 : decode code 1143 = .ok (.aload_n 2, 1) := by decide +kernel
theorem dL_law_1144 : decode code 1144 = .ok (.aload_n 0, 1) := by decide +kernel
theorem dL_law_1145 : decode code 1145 = .ok (.iload_n 3, 1) := by decide +kernel
theorem dL_law_1146 : decode code 1146 = .ok (.iconst 1, 1) := by decide +kernel
theorem dL_law_1147 : decode code 1147 = .ok (.iadd, 1) := by decide +kernel
theorem dL_law_1148 : decode code 1148 = .ok (.iaload, 1) := by decide +kernel
theorem dL_law_1149 : decode code 1149 = .ok (.invokevirtual 150, 3) := by decide +kernel
theorem dL_law_1152 : decode code 1152 = .ok (.pop, 1) := by decide +kernel
theorem dL_law_1153 : decode code 1153 = .ok (.goto 339, 3) := by decide +kernel
theorem dL_law_1156 : decode code 1156 = .ok (.aload_n 1, 1) := by decide +kernel
theorem dL_law_1157 : decode code 1157 = .ok (.aload_n 0, 1) := by decide +kernel
theorem dL_law_1158 : decode code 1158 = .ok (.iload_n 3, 1) := by decide +kernel
theorem dL_law_1159 : decode code 1159 = .ok (.iconst 1, 1) := by decide +kernel
theorem dL_law_1160 : decode code 1160 = .ok (.iadd, 1) := by decide +kernel
theorem dL_law_1161 : decode code 1161 = .ok (.iaload, 1) := by decide +kernel
theorem dL_law_1162 : decode code 1162 = .ok (.invokevirtual 151, 3) := by decide +kernel
theorem dL_law_1165 : decode code 1165 = .ok (.pop2, 1) := by decide +kernel
theorem dL_law_1166 : decode code 1166 = .ok (.aload_n 2, 1) := by decide +kernel
theorem dL_law_1167 : decode code 1167 = .ok (.aload_n 0, 1) := by decide +kernel
theorem dL_law_1168 : decode code 1168 = .ok (.iload_n 3, 1) := by decide +kernel
theorem dL_law_1169 : decode code 1169 = .ok (.iconst 1, 1) := by decide +kernel
theorem dL_law_1170 : decode code 1170 = .ok (.iadd, 1) := by decide +kernel
theorem dL_law_1171 : decode code 1171 = .ok (.iaload, 1) := by decide +kernel
theorem dL_law_1172 : decode code 1172 = .ok (.invokevirtual 155, 3) := by decide +kernel
theorem dL_law_1175 : decode code 1175 = .ok (.pop2, 1) := by decide +kernel
theorem dL_law_1176 : decode code 1176 = .ok (.goto 316, 3) := by decide +kernel
theorem dL_law_1179 : decode code 1179 = .ok (.aload_n 1, 1) := by decide +kernel
theorem dL_law_1180 : decode code 1180 = .ok (.aload_n 0, 1) := by decide +kernel
theorem dL_law_1181 : decode code 1181 = .ok (.iload_n 3, 1) := by decide +kernel
theorem dL_law_1182 : decode code 1182 = .ok (.iconst 1, 1) := by decide +kernel
theorem dL_law_1183 : decode code 1183 = .ok (.iadd, 1) := by decide +kernel
theorem dL_law_1184 : decode code 1184 = .ok (.iaload, 1) := by decide +kernel
theorem dL_law_1185 : decode code 1185 = .ok (.aload_n 0, 1) := by decide +kernel
theorem dL_law_1186 : decode code 1186 = .ok (.iload_n 3, 1) := by decide +kernel
theorem dL_law_1187 : decode code 1187 = .ok (.iconst 2, 1) := by decide +kernel
theorem dL_law_1188 : decode code 1188 = .ok (.iadd, 1) := by decide +kernel
theorem dL_law_1189 : decode code 1189 = .ok (.iaload, 1) := by decide +kernel
theorem dL_law_1190 : decode code 1190 = .ok (.aload_n 0, 1) := by decide +kernel
theorem dL_law_1191 : decode code 1191 = .ok (.iload_n 3, 1) := by decide +kernel
theorem dL_law_1192 : decode code 1192 = .ok (.iconst 3, 1) := by decide +kernel
theorem dL_law_1193 : decode code 1193 = .ok (.iadd, 1) := by decide +kernel
theorem dL_law_1194 : decode code 1194 = .ok (.iaload, 1) := by decide +kernel
theorem dL_law_1195 : decode code 1195 = .ok (.invokevirtual 156, 3) := by decide +kernel
theorem dL_law_1198 : decode code 1198 = .ok (.pop, 1) := by decide +kernel
theorem dL_law_1199 : decode code 1199 = .ok (.aload_n 2, 1) := by decide +kernel
theorem dL_law_1200 : decode code 1200 = .ok (.aload_n 0, 1) := by decide +kernel
theorem dL_law_1201 : decode code 1201 = .ok (.iload_n 3, 1) := by decide +kernel
theorem dL_law_1202 : decode code 1202 = .ok (.iconst 1, 1) := by decide +kernel
theorem dL_law_1203 : decode code 1203 = .ok (.iadd, 1) := by decide +kernel
theorem dL_law_1204 : decode code 1204 = .ok (.iaload, 1) := by decide +kernel
theorem dL_law_1205 : decode code 1205 = .ok (.aload_n 0, 1) := by decide +kernel
theorem dL_law_1206 : decode code 1206 = .ok (.iload_n 3, 1) := by decide +kernel
theorem dL_law_1207 : decode code 1207 = .ok (.iconst 2, 1) := by decide +kernel
theorem dL_law_1208 : decode code 1208 = .ok (.iadd, 1) := by decide +kernel
theorem dL_law_1209 : decode code 1209 = .ok (.iaload, 1) := by decide +kernel
theorem dL_law_1210 : decode code 1210 = .ok (.aload_n 0, 1) := by decide +kernel
theorem dL_law_1211 : decode code 1211 = .ok (.iload_n 3, 1) := by decide +kernel
theorem dL_law_1212 : decode code 1212 = .ok (.iconst 3, 1) := by decide +kernel
theorem dL_law_1213 : decode code 1213 = .ok (.iadd, 1) := by decide +kernel
theorem dL_law_1214 : decode code 1214 = .ok (.iaload, 1) := by decide +kernel
theorem dL_law_1215 : decode code 1215 = .ok (.invokevirtual 159, 3) := by decide +kernel
theorem dL_law_1218 : decode code 1218 = .ok (.pop, 1) := by decide +kernel
theorem dL_law_1219 : decode code 1219 = .ok (.goto 273, 3) := by decide +kernel
theorem dL_law_1222 : decode code 1222 = .ok (.aload_n 1, 1) := by decide +kernel
theorem dL_law_1223 : decode code 1223 = .ok (.aload_n 0, 1) := by decide +kernel
theorem dL_law_1224 : decode code 1224 = .ok (.iload_n 3, 1) := by decide +kernel
theorem dL_law_1225 : decode code 1225 = .ok (.iconst 1, 1) := by decide +kernel
theorem dL_law_1226 : decode code 1226 = .ok (.iadd, 1) := by decide +kernel
theorem dL_law_1227 : decode code 1227 = .ok (.iaload, 1) := by decide +kernel
theorem dL_law_1228 : decode code 1228 = .ok (.aload_n 0, 1) := by decide +kernel
theorem dL_law_1229 : decode code 1229 = .ok (.iload_n 3, 1) := by decide +kernel
theorem dL_law_1230 : decode code 1230 = .ok (.iconst 2, 1) := by decide +kernel
theorem dL_law_1231 : decode code 1231 = .ok (.iadd, 1) := by decide +kernel
theorem dL_law_1232 : decode code 1232 = .ok (.iaload, 1) := by decide +kernel
theorem dL_law_1233 : decode code 1233 = .ok (.aload_n 0, 1) := by decide +kernel
theorem dL_law_1234 : decode code 1234 = .ok (.iload_n 3, 1) := by decide +kernel
theorem dL_law_1235 : decode code 1235 = .ok (.iconst 3, 1) := by decide +kernel
theorem dL_law_1236 : decode code 1236 = .ok (.iadd, 1) := by decide +kernel
theorem dL_law_1237 : decode code 1237 = .ok (.iaload, 1) := by decide +kernel
theorem dL_law_1238 : decode code 1238 = .ok (.invokevirtual 160, 3) := by decide +kernel
theorem dL_law_1241 : decode code 1241 = .ok (.pop, 1) := by decide +kernel
theorem dL_law_1242 : decode code 1242 = .ok (.aload_n 2, 1) := by decide +kernel
theorem dL_law_1243 : decode code 1243 = .ok (.aload_n 0, 1) := by decide +kernel
theorem dL_law_1244 : decode code 1244 = .ok (.iload_n 3, 1) := by decide +kernel
theorem dL_law_1245 : decode code 1245 = .ok (.iconst 1, 1) := by decide +kernel
theorem dL_law_1246 : decode code 1246 = .ok (.iadd, 1) := by decide +kernel
theorem dL_law_1247 : decode code 1247 = .ok (.iaload, 1) := by decide +kernel
theorem dL_law_1248 : decode code 1248 = .ok (.aload_n 0, 1) := by decide +kernel
theorem dL_law_1249 : decode code 1249 = .ok (.iload_n 3, 1) := by decide +kernel
theorem dL_law_1250 : decode code 1250 = .ok (.iconst 2, 1) := by decide +kernel
theorem dL_law_1251 : decode code 1251 = .ok (.iadd, 1) := by decide +kernel
theorem dL_law_1252 : decode code 1252 = .ok (.iaload, 1) := by decide +kernel
theorem dL_law_1253 : decode code 1253 = .ok (.aload_n 0, 1) := by decide +kernel
theorem dL_law_1254 : decode code 1254 = .ok (.iload_n 3, 1) := by decide +kernel
theorem dL_law_1255 : decode code 1255 = .ok (.iconst 3, 1) := by decide +kernel
theorem dL_law_1256 : decode code 1256 = .ok (.iadd, 1) := by decide +kernel
theorem dL_law_1257 : decode code 1257 = .ok (.iaload, 1) := by decide +kernel
theorem dL_law_1258 : decode code 1258 = .ok (.invokevirtual 163, 3) := by decide +kernel
theorem dL_law_1261 : decode code 1261 = .ok (.pop, 1) := by decide +kernel
theorem dL_law_1262 : decode code 1262 = .ok (.goto 230, 3) := by decide +kernel
theorem dL_law_1265 : decode code 1265 = .ok (.aload_n 1, 1) := by decide +kernel
theorem dL_law_1266 : decode code 1266 = .ok (.invokevirtual 164, 3) := by decide +kernel
theorem dL_law_1269 : decode code 1269 = .ok (.pop, 1) := by decide +kernel
theorem dL_law_1270 : decode code 1270 = .ok (.aload_n 2, 1) := by decide +kernel
theorem dL_law_1271 : decode code 1271 = .ok (.invokevirtual 167, 3) := by decide +kernel
theorem dL_law_1274 : decode code 1274 = .ok (.pop, 1) := by decide +kernel
theorem dL_law_1275 : decode code 1275 = .ok (.goto 217, 3) := by decide +kernel
theorem dL_law_1278 : decode code 1278 = .ok (.aload_n 1, 1) := by decide +kernel
theorem dL_law_1279 : decode code 1279 = .ok (.aload_n 0, 1) := by decide +kernel
theorem dL_law_1280 : decode code 1280 = .ok (.iload_n 3, 1) := by decide +kernel
theorem dL_law_1281 : decode code 1281 = .ok (.iconst 1, 1) := by decide +kernel
theorem dL_law_1282 : decode code 1282 = .ok (.iadd, 1) := by decide +kernel
theorem dL_law_1283 : decode code 1283 = .ok (.iaload, 1) := by decide +kernel
theorem dL_law_1284 : decode code 1284 = .ok (.invokevirtual 168, 3) := by decide +kernel
theorem dL_law_1287 : decode code 1287 = .ok (.pop, 1) := by decide +kernel
theorem dL_law_1288 : decode code 1288 = .ok (.aload_n 2, 1) := by decide +kernel
theorem dL_law_1289 : decode code 1289 = .ok (.aload_n 0, 1) := by decide +kernel
theorem dL_law_1290 : decode code 1290 = .ok (.iload_n 3, 1) := by decide +kernel
theorem dL_law_1291 : decode code 1291 = .ok (.iconst 1, 1) := by decide +kernel
theorem dL_law_1292 : decode code 1292 = .ok (.iadd, 1) := by decide +kernel
theorem dL_law_1293 : decode code 1293 = .ok (.iaload, 1) := by decide +kernel
theorem dL_law_1294 : decode code 1294 = .ok (.invokevirtual 171, 3) := by decide +kernel
theorem dL_law_1297 : decode code 1297 = .ok (.pop, 1) := by decide +kernel
theorem dL_law_1298 : decode code 1298 = .ok (.goto 194, 3) := by decide +kernel
theorem dL_law_1301 : decode code 1301 = .ok (.aload_n 1, 1) := by decide +kernel
theorem dL_law_1302 : decode code 1302 = .ok (.aload_n 0, 1) := by decide +kernel
theorem dL_law_1303 : decode code 1303 = .ok (.iload_n 3, 1) := by decide +kernel
theorem dL_law_1304 : decode code 1304 = .ok (.iconst 1, 1) := by decide +kernel
theorem dL_law_1305 : decode code 1305 = .ok (.iadd, 1) := by decide +kernel
theorem dL_law_1306 : decode code 1306 = .ok (.iaload, 1) := by decide +kernel
theorem dL_law_1307 : decode code 1307 = .ok (.aload_n 0, 1) := by decide +kernel
theorem dL_law_1308 : decode code 1308 = .ok (.iload_n 3, 1) := by decide +kernel
theorem dL_law_1309 : decode code 1309 = .ok (.iconst 2, 1) := by decide +kernel
theorem dL_law_1310 : decode code 1310 = .ok (.iadd, 1) := by decide +kernel
theorem dL_law_1311 : decode code 1311 = .ok (.iaload, 1) := by decide +kernel
theorem dL_law_1312 : decode code 1312 = .ok (.aload_n 0, 1) := by decide +kernel
theorem dL_law_1313 : decode code 1313 = .ok (.iload_n 3, 1) := by decide +kernel
theorem dL_law_1314 : decode code 1314 = .ok (.iconst 3, 1) := by decide +kernel
theorem dL_law_1315 : decode code 1315 = .ok (.iadd, 1) := by decide +kernel
theorem dL_law_1316 : decode code 1316 = .ok (.iaload, 1) := by decide +kernel
theorem dL_law_1317 : decode code 1317 = .ok (.invokevirtual 172, 3) := by decide +kernel
theorem dL_law_1320 : decode code 1320 = .ok (.pop, 1) := by decide +kernel
theorem dL_law_1321 : decode code 1321 = .ok (.aload_n 2, 1) := by decide +kernel
theorem dL_law_1322 : decode code 1322 = .ok (.aload_n 0, 1) := by decide +kernel
theorem dL_law_1323 : decode code 1323 = .ok (.iload_n 3, 1) := by decide +kernel
theorem dL_law_1324 : decode code 1324 = .ok (.iconst 1, 1) := by decide +kernel
theorem dL_law_1325 : decode code 1325 = .ok (.iadd, 1) := by decide +kernel
theorem dL_law_1326 : decode code 1326 = .ok (.iaload, 1) := by decide +kernel
theorem dL_law_1327 : decode code 1327 = .ok (.aload_n 0, 1) := by decide +kernel
theorem dL_law_1328 : decode code 1328 = .ok (.iload_n 3, 1) := by decide +kernel
theorem dL_law_1329 : decode code 1329 = .ok (.iconst 2, 1) := by decide +kernel
theorem dL_law_1330 : decode code 1330 = .ok (.iadd, 1) := by decide +kernel
theorem dL_law_1331 : decode code 1331 = .ok (.iaload, 1) := by decide +kernel
theorem dL_law_1332 : decode code 1332 = .ok (.aload_n 0, 1) := by decide +kernel
theorem dL_law_1333 : decode code 1333 = .ok (.iload_n 3, 1) := by decide +kernel
theorem dL_law_1334 : decode code 1334 = .ok (.iconst 3, 1) := by decide +kernel
theorem dL_law_1335 : decode code 1335 = .ok (.iadd, 1) := by decide +kernel
theorem dL_law_1336 : decode code 1336 = .ok (.iaload, 1) := by decide +kernel
theorem dL_law_1337 : decode code 1337 = .ok (.invokevirtual 175, 3) := by decide +kernel
theorem dL_law_1340 : decode code 1340 = .ok (.pop, 1) := by decide +kernel
theorem dL_law_1341 : decode code 1341 = .ok (.goto 151, 3) := by decide +kernel
theorem dL_law_1344 : decode code 1344 = .ok (.aload_n 1, 1) := by decide +kernel
theorem dL_law_1345 : decode code 1345 = .ok (.aload_n 0, 1) := by decide +kernel
theorem dL_law_1346 : decode code 1346 = .ok (.iload_n 3, 1) := by decide +kernel
theorem dL_law_1347 : decode code 1347 = .ok (.iconst 1, 1) := by decide +kernel
theorem dL_law_1348 : decode code 1348 = .ok (.iadd, 1) := by decide +kernel
theorem dL_law_1349 : decode code 1349 = .ok (.iaload, 1) := by decide +kernel
theorem dL_law_1350 : decode code 1350 = .ok (.aload_n 0, 1) := by decide +kernel
theorem dL_law_1351 : decode code 1351 = .ok (.iload_n 3, 1) := by decide +kernel
theorem dL_law_1352 : decode code 1352 = .ok (.iconst 2, 1) := by decide +kernel
theorem dL_law_1353 : decode code 1353 = .ok (.iadd, 1) := by decide +kernel
theorem dL_law_1354 : decode code 1354 = .ok (.iaload, 1) := by decide +kernel
theorem dL_law_1355 : decode code 1355 = .ok (.invokevirtual 176, 3) := by decide +kernel
theorem dL_law_1358 : decode code 1358 = .ok (.pop, 1) := by decide +kernel
theorem dL_law_1359 : decode code 1359 = .ok (.aload_n 2, 1) := by decide +kernel
theorem dL_law_1360 : decode code 1360 = .ok (.aload_n 0, 1) := by decide +kernel
theorem dL_law_1361 : decode code 1361 = .ok (.iload_n 3, 1) := by decide +kernel
theorem dL_law_1362 : decode code 1362 = .ok (.iconst 1, 1) := by decide +kernel
theorem dL_law_1363 : decode code 1363 = .ok (.iadd, 1) := by decide +kernel
theorem dL_law_1364 : decode code 1364 = .ok (.iaload, 1) := by decide +kernel
theorem dL_law_1365 : decode code 1365 = .ok (.aload_n 0, 1) := by decide +kernel
theorem dL_law_1366 : decode code 1366 = .ok (.iload_n 3, 1) := by decide +kernel
theorem dL_law_1367 : decode code 1367 = .ok (.iconst 2, 1) := by decide +kernel
theorem dL_law_1368 : decode code 1368 = .ok (.iadd, 1) := by decide +kernel
theorem dL_law_1369 : decode code 1369 = .ok (.iaload, 1) := by decide +kernel
theorem dL_law_1370 : decode code 1370 = .ok (.invokevirtual 179, 3) := by decide +kernel
theorem dL_law_1373 : decode code 1373 = .ok (.pop, 1) := by decide +kernel
theorem dL_law_1374 : decode code 1374 = .ok (.goto 118, 3) := by decide +kernel
theorem dL_law_1377 : decode code 1377 = .ok (.aload_n 1, 1) := by decide +kernel
theorem dL_law_1378 : decode code 1378 = .ok (.aload_n 0, 1) := by decide +kernel
theorem dL_law_1379 : decode code 1379 = .ok (.iload_n 3, 1) := by decide +kernel
theorem dL_law_1380 : decode code 1380 = .ok (.iconst 1, 1) := by decide +kernel
theorem dL_law_1381 : decode code 1381 = .ok (.iadd, 1) := by decide +kernel
theorem dL_law_1382 : decode code 1382 = .ok (.iaload, 1) := by decide +kernel
theorem dL_law_1383 : decode code 1383 = .ok (.aload_n 0, 1) := by decide +kernel
theorem dL_law_1384 : decode code 1384 = .ok (.iload_n 3, 1) := by decide +kernel
theorem dL_law_1385 : decode code 1385 = .ok (.iconst 2, 1) := by decide +kernel
theorem dL_law_1386 : decode code 1386 = .ok (.iadd, 1) := by decide +kernel
theorem dL_law_1387 : decode code 1387 = .ok (.iaload, 1) := by decide +kernel
theorem dL_law_1388 : decode code 1388 = .ok (.invokevirtual 180, 3) := by decide +kernel
theorem dL_law_1391 : decode code 1391 = .ok (.pop, 1) := by decide +kernel
theorem dL_law_1392 : decode code 1392 = .ok (.aload_n 2, 1) := by decide +kernel
theorem dL_law_1393 : decode code 1393 = .ok (.aload_n 0, 1) := by decide +kernel
theorem dL_law_1394 : decode code 1394 = .ok (.iload_n 3, 1) := by decide +kernel
theorem dL_law_1395 : decode code 1395 = .ok (.iconst 1, 1) := by decide +kernel
theorem dL_law_1396 : decode code 1396 = .ok (.iadd, 1) := by decide +kernel
theorem dL_law_1397 : decode code 1397 = .ok (.iaload, 1) := by decide +kernel
theorem dL_law_1398 : decode code 1398 = .ok (.aload_n 0, 1) := by decide +kernel
theorem dL_law_1399 : decode code 1399 = .ok (.iload_n 3, 1) := by decide +kernel
theorem dL_law_1400 : decode code 1400 = .ok (.iconst 2, 1) := by decide +kernel
theorem dL_law_1401 : decode code 1401 = .ok (.iadd, 1) := by decide +kernel
theorem dL_law_1402 : decode code 1402 = .ok (.iaload, 1) := by decide +kernel
theorem dL_law_1403 : decode code 1403 = .ok (.invokevirtual 183, 3) := by decide +kernel
theorem dL_law_1406 : decode code 1406 = .ok (.pop, 1) := by decide +kernel
theorem dL_law_1407 : decode code 1407 = .ok (.goto 85, 3) := by decide +kernel
theorem dL_law_1410 : decode code 1410 = .ok (.aload_n 1, 1) := by decide +kernel
theorem dL_law_1411 : decode code 1411 = .ok (.invokevirtual 184, 3) := by decide +kernel
theorem dL_law_1414 : decode code 1414 = .ok (.pop, 1) := by decide +kernel
theorem dL_law_1415 : decode code 1415 = .ok (.aload_n 2, 1) := by decide +kernel
theorem dL_law_1416 : decode code 1416 = .ok (.invokevirtual 187, 3) := by decide +kernel
theorem dL_law_1419 : decode code 1419 = .ok (.pop, 1) := by decide +kernel
theorem dL_law_1420 : decode code 1420 = .ok (.goto 72, 3) := by decide +kernel
theorem dL_law_1423 : decode code 1423 = .ok (.aload_n 1, 1) := by decide +kernel
theorem dL_law_1424 : decode code 1424 = .ok (.aload_n 0, 1) := by decide +kernel
theorem dL_law_1425 : decode code 1425 = .ok (.iload_n 3, 1) := by decide +kernel
theorem dL_law_1426 : decode code 1426 = .ok (.iconst 1, 1) := by decide +kernel
theorem dL_law_1427 : decode code 1427 = .ok (.iadd, 1) := by decide +kernel
theorem dL_law_1428 : decode code 1428 = .ok (.iaload, 1) := by decide +kernel
theorem dL_law_1429 : decode code 1429 = .ok (.invokevirtual 188, 3) := by decide +kernel
theorem dL_law_1432 : decode code 1432 = .ok (.pop, 1) := by decide +kernel
theorem dL_law_1433 : decode code 1433 = .ok (.aload_n 2, 1) := by decide +kernel
theorem dL_law_1434 : decode code 1434 = .ok (.aload_n 0, 1) := by decide +kernel
theorem dL_law_1435 : decode code 1435 = .ok (.iload_n 3, 1) := by decide +kernel
theorem dL_law_1436 : decode code 1436 = .ok (.iconst 1, 1) := by decide +kernel
theorem dL_law_1437 : decode code 1437 = .ok (.iadd, 1) := by decide +kernel
theorem dL_law_1438 : decode code 1438 = .ok (.iaload, 1) := by decide +kernel
theorem dL_law_1439 : decode code 1439 = .ok (.invokevirtual 191, 3) := by decide +kernel
theorem dL_law_1442 : decode code 1442 = .ok (.pop, 1) := by decide +kernel
theorem dL_law_1443 : decode code 1443 = .ok (.goto 49, 3) := by decide +kernel
theorem dL_law_1446 : decode code 1446 = .ok (.aload_n 1, 1) := by decide +kernel
theorem dL_law_1447 : decode code 1447 = .ok (.aload_n 0, 1) := by decide +kernel
theorem dL_law_1448 : decode code 1448 = .ok (.iload_n 3, 1) := by decide +kernel
theorem dL_law_1449 : decode code 1449 = .ok (.iconst 1, 1) := by decide +kernel
theorem dL_law_1450 : decode code 1450 = .ok (.iadd, 1) := by decide +kernel
theorem dL_law_1451 : decode code 1451 = .ok (.iaload, 1) := by decide +kernel
theorem dL_law_1452 : decode code 1452 = .ok (.invokevirtual 192, 3) := by decide +kernel
theorem dL_law_1455 : decode code 1455 = .ok (.pop, 1) := by decide +kernel
theorem dL_law_1456 : decode code 1456 = .ok (.aload_n 2, 1) := by decide +kernel
theorem dL_law_1457 : decode code 1457 = .ok (.aload_n 0, 1) := by decide +kernel
theorem dL_law_1458 : decode code 1458 = .ok (.iload_n 3, 1) := by decide +kernel
theorem dL_law_1459 : decode code 1459 = .ok (.iconst 1, 1) := by decide +kernel
theorem dL_law_1460 : decode code 1460 = .ok (.iadd, 1) := by decide +kernel
theorem dL_law_1461 : decode code 1461 = .ok (.iaload, 1) := by decide +kernel
theorem dL_law_1462 : decode code 1462 = .ok (.invokevirtual 195, 3) := by decide +kernel
theorem dL_law_1465 : decode code 1465 = .ok (.pop, 1) := by decide +kernel
theorem dL_law_1466 : decode code 1466 = .ok (.goto 26, 3) := by decide +kernel
theorem dL_law_1469 : decode code 1469 = .ok (.aload_n 1, 1) := by decide +kernel
theorem dL_law_1470 : decode code 1470 = .ok (.aload_n 0, 1) := by decide +kernel
theorem dL_law_1471 : decode code 1471 = .ok (.iload_n 3, 1) := by decide +kernel
theorem dL_law_1472 : decode code 1472 = .ok (.iconst 1, 1) := by decide +kernel
theorem dL_law_1473 : decode code 1473 = .ok (.iadd, 1) := by decide +kernel
theorem dL_law_1474 : decode code 1474 = .ok (.iaload, 1) := by decide +kernel
theorem dL_law_1475 : decode code 1475 = .ok (.invokevirtual 196, 3) := by decide +kernel
theorem dL_law_1478 : decode code 1478 = .ok (.pop, 1) := by decide +kernel
theorem dL_law_1479 : decode code 1479 = .ok (.aload_n 2, 1) := by decide +kernel
theorem dL_law_1480 : decode code 1480 = .ok (.aload_n 0, 1) := by decide +kernel
theorem dL_law_1481 : decode code 1481 = .ok (.iload_n 3, 1) := by decide +kernel
theorem dL_law_1482 : decode code 1482 = .ok (.iconst 1, 1) := by decide +kernel
theorem dL_law_1483 : decode code 1483 = .ok (.iadd, 1) := by decide +kernel
theorem dL_law_1484 : decode code 1484 = .ok (.iaload, 1) := by decide +kernel
theorem dL_law_1485 : decode code 1485 = .ok (.invokevirtual 199, 3) := by decide +kernel
theorem dL_law_1488 : decode code 1488 = .ok (.pop, 1) := by decide +kernel
theorem dL_law_1489 : decode code 1489 = .ok (.goto 3, 3) := by decide +kernel
theorem dL_law_1492 : decode code 1492 = .ok (.iinc 3 6, 3) := by decide +kernel
