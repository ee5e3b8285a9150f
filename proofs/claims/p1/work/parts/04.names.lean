/-! names, words and decoded instructions of the readers -/
abbrev cX11_after : ByteArray := prog_1_method_24_code
def yX11_after : MethodName := ⟨RX11, "after", "(III)I"⟩
abbrev cX11_areCustoms : ByteArray := prog_1_method_55_code
def yX11_areCustoms : MethodName := ⟨RX11, "areCustoms", "(I)Z"⟩
abbrev cX11_bestSet : ByteArray := prog_1_method_40_code
def yX11_bestSet : MethodName := ⟨RX11, "bestSet", "(III)I"⟩
abbrev cX11_book : ByteArray := prog_1_method_42_code
def yX11_book : MethodName := ⟨RX11, "book", "()I"⟩
abbrev cX11_canBe : ByteArray := prog_1_method_23_code
def yX11_canBe : MethodName := ⟨RX11, "canBe", "(II)I"⟩
abbrev cX11_canGain : ByteArray := prog_1_method_41_code
def yX11_canGain : MethodName := ⟨RX11, "canGain", "(I)Z"⟩
abbrev cX11_canSee : ByteArray := prog_1_method_56_code
def yX11_canSee : MethodName := ⟨RX11, "canSee", "(II)Z"⟩
abbrev cX11_card : ByteArray := prog_1_method_18_code
def yX11_card : MethodName := ⟨RX11, "card", "(II)I"⟩
abbrev cX11_choice : ByteArray := prog_1_method_32_code
def yX11_choice : MethodName := ⟨RX11, "choice", "(I)I"⟩
abbrev cX11_count : ByteArray := prog_1_method_50_code
def yX11_count : MethodName := ⟨RX11, "count", "(I)I"⟩
abbrev cX11_differs : ByteArray := prog_1_method_36_code
def yX11_differs : MethodName := ⟨RX11, "differs", "(I)I"⟩
abbrev cX11_gain : ByteArray := prog_1_method_39_code
def yX11_gain : MethodName := ⟨RX11, "gain", "(III)I"⟩
abbrev cX11_gap : ByteArray := prog_1_method_47_code
def yX11_gap : MethodName := ⟨RX11, "gap", "()I"⟩
abbrev cX11_had : ByteArray := prog_1_method_26_code
def yX11_had : MethodName := ⟨RX11, "had", "(IIII)I"⟩
abbrev cX11_hand : ByteArray := prog_1_method_12_code
def yX11_hand : MethodName := ⟨RX11, "hand", "(IZ)I"⟩
abbrev cX11_hold : ByteArray := prog_1_method_48_code
def yX11_hold : MethodName := ⟨RX11, "hold", "(I)Z"⟩
abbrev cX11_isCustom : ByteArray := prog_1_method_54_code
def yX11_isCustom : MethodName := ⟨RX11, "isCustom", "(I)Z"⟩
abbrev cX11_isInHand : ByteArray := prog_1_method_57_code
def yX11_isInHand : MethodName := ⟨RX11, "isInHand", "(I)Z"⟩
abbrev cX11_kept : ByteArray := prog_1_method_43_code
def yX11_kept : MethodName := ⟨RX11, "kept", "(I)I"⟩
abbrev cX11_knows : ByteArray := prog_1_method_28_code
def yX11_knows : MethodName := ⟨RX11, "knows", "(IIII)I"⟩
abbrev cX11_lead : ByteArray := prog_1_method_11_code
def yX11_lead : MethodName := ⟨RX11, "lead", "(I)Z"⟩
abbrev cX11_lies : ByteArray := prog_1_method_37_code
def yX11_lies : MethodName := ⟨RX11, "lies", "(I)I"⟩
abbrev cX11_line : ByteArray := prog_1_method_30_code
def yX11_line : MethodName := ⟨RX11, "line", "(I)I"⟩
abbrev cX11_loss : ByteArray := prog_1_method_35_code
def yX11_loss : MethodName := ⟨RX11, "loss", "(I)I"⟩
abbrev cX11_may : ByteArray := prog_1_method_14_code
def yX11_may : MethodName := ⟨RX11, "may", "()I"⟩
abbrev cX11_mean : ByteArray := prog_1_method_31_code
def yX11_mean : MethodName := ⟨RX11, "mean", "(II)J"⟩
abbrev cX11_open : ByteArray := prog_1_method_29_code
def yX11_open : MethodName := ⟨RX11, "open", "()I"⟩
abbrev cX11_openings : ByteArray := prog_1_method_45_code
def yX11_openings : MethodName := ⟨RX11, "openings", "(II)I"⟩
abbrev cX11_place : ByteArray := prog_1_method_7_code
def yX11_place : MethodName := ⟨RX11, "place", "()I"⟩
abbrev cX11_play : ByteArray := prog_1_method_15_code
def yX11_play : MethodName := ⟨RX11, "play", "(I)I"⟩
abbrev cX11_quarrel : ByteArray := prog_1_method_46_code
def yX11_quarrel : MethodName := ⟨RX11, "quarrel", "(II)I"⟩
abbrev cX11_refusal : ByteArray := prog_1_method_59_code
def yX11_refusal : MethodName := ⟨RX11, "refusal", "(I)I"⟩
abbrev cX11_restore : ByteArray := prog_1_method_49_code
def yX11_restore : MethodName := ⟨RX11, "restore", "(I)Z"⟩
abbrev cX11_revoke : ByteArray := prog_1_method_16_code
def yX11_revoke : MethodName := ⟨RX11, "revoke", "(I)I"⟩
abbrev cX11_revokes : ByteArray := prog_1_method_21_code
def yX11_revokes : MethodName := ⟨RX11, "revokes", "(I)I"⟩
abbrev cX11_safe : ByteArray := prog_1_method_34_code
def yX11_safe : MethodName := ⟨RX11, "safe", "(II)I"⟩
abbrev cX11_says : ByteArray := prog_1_method_22_code
def yX11_says : MethodName := ⟨RX11, "says", "(III)I"⟩
abbrev cX11_slotsInUse : ByteArray := prog_1_method_51_code
def yX11_slotsInUse : MethodName := ⟨RX11, "slotsInUse", "()I"⟩
abbrev cX11_spread : ByteArray := prog_1_method_33_code
def yX11_spread : MethodName := ⟨RX11, "spread", "(III)I"⟩
abbrev cX11_sure : ByteArray := prog_1_method_27_code
def yX11_sure : MethodName := ⟨RX11, "sure", "(II)I"⟩
abbrev cX11_told : ByteArray := prog_1_method_44_code
def yX11_told : MethodName := ⟨RX11, "told", "(III)I"⟩
abbrev cX11_tricks : ByteArray := prog_1_method_19_code
def yX11_tricks : MethodName := ⟨RX11, "tricks", "(I)I"⟩
abbrev cX11_turn : ByteArray := prog_1_method_13_code
def yX11_turn : MethodName := ⟨RX11, "turn", "()I"⟩
abbrev cX11_undo : ByteArray := prog_1_method_17_code
def yX11_undo : MethodName := ⟨RX11, "undo", "()I"⟩
abbrev cX11_winner : ByteArray := prog_1_method_20_code
def yX11_winner : MethodName := ⟨RX11, "winner", "(I)I"⟩
abbrev cX11_worth : ByteArray := prog_1_method_38_code
def yX11_worth : MethodName := ⟨RX11, "worth", "(I)J"⟩
abbrev cX12_after : ByteArray := prog_14_method_91_code
def yX12_after : MethodName := ⟨RX12, "after", "(III)I"⟩
abbrev cX12_areCustoms : ByteArray := prog_14_method_43_code
def yX12_areCustoms : MethodName := ⟨RX12, "areCustoms", "(I)Z"⟩
abbrev cX12_bestSet : ByteArray := prog_14_method_134_code
def yX12_bestSet : MethodName := ⟨RX12, "bestSet", "(III)I"⟩
abbrev cX12_book : ByteArray := prog_14_method_135_code
def yX12_book : MethodName := ⟨RX12, "book", "()I"⟩
abbrev cX12_canAsk : ByteArray := prog_14_method_88_code
def yX12_canAsk : MethodName := ⟨RX12, "canAsk", "(II)Z"⟩
abbrev cX12_canBe : ByteArray := prog_14_method_90_code
def yX12_canBe : MethodName := ⟨RX12, "canBe", "(II)I"⟩
abbrev cX12_canGain : ByteArray := prog_14_method_132_code
def yX12_canGain : MethodName := ⟨RX12, "canGain", "(I)Z"⟩
abbrev cX12_canMean : ByteArray := prog_14_method_116_code
def yX12_canMean : MethodName := ⟨RX12, "canMean", "(I)Z"⟩
abbrev cX12_canPlay : ByteArray := prog_14_method_61_code
def yX12_canPlay : MethodName := ⟨RX12, "canPlay", "(I)Z"⟩
abbrev cX12_card : ByteArray := prog_14_method_69_code
def yX12_card : MethodName := ⟨RX12, "card", "(II)I"⟩
abbrev cX12_cards : ByteArray := prog_14_method_35_code
def yX12_cards : MethodName := ⟨RX12, "cards", "()I"⟩
abbrev cX12_choice : ByteArray := prog_14_method_119_code
def yX12_choice : MethodName := ⟨RX12, "choice", "(I)I"⟩
abbrev cX12_count : ByteArray := prog_14_method_148_code
def yX12_count : MethodName := ⟨RX12, "count", "(I)I"⟩
abbrev cX12_differs : ByteArray := prog_14_method_124_code
def yX12_differs : MethodName := ⟨RX12, "differs", "(I)I"⟩
abbrev cX12_gain : ByteArray := prog_14_method_133_code
def yX12_gain : MethodName := ⟨RX12, "gain", "(III)I"⟩
abbrev cX12_had : ByteArray := prog_14_method_92_code
def yX12_had : MethodName := ⟨RX12, "had", "(IIII)I"⟩
abbrev cX12_hand : ByteArray := prog_14_method_52_code
def yX12_hand : MethodName := ⟨RX12, "hand", "(IZ)I"⟩
abbrev cX12_handSize : ByteArray := prog_14_method_36_code
def yX12_handSize : MethodName := ⟨RX12, "handSize", "()I"⟩
abbrev cX12_hold : ByteArray := prog_14_method_146_code
def yX12_hold : MethodName := ⟨RX12, "hold", "(I)Z"⟩
abbrev cX12_in : ByteArray := prog_14_method_33_code
def yX12_in : MethodName := ⟨RX12, "in", "(III)Z"⟩
abbrev cX12_isCustom : ByteArray := prog_14_method_138_code
def yX12_isCustom : MethodName := ⟨RX12, "isCustom", "(I)Z"⟩
abbrev cX12_kept : ByteArray := prog_14_method_137_code
def yX12_kept : MethodName := ⟨RX12, "kept", "(I)I"⟩
abbrev cX12_knows : ByteArray := prog_14_method_96_code
def yX12_knows : MethodName := ⟨RX12, "knows", "(IIII)I"⟩
abbrev cX12_lead : ByteArray := prog_14_method_49_code
def yX12_lead : MethodName := ⟨RX12, "lead", "(I)Z"⟩
abbrev cX12_lies : ByteArray := prog_14_method_126_code
def yX12_lies : MethodName := ⟨RX12, "lies", "(I)I"⟩
abbrev cX12_line : ByteArray := prog_14_method_111_code
def yX12_line : MethodName := ⟨RX12, "line", "(I)I"⟩
abbrev cX12_loss : ByteArray := prog_14_method_123_code
def yX12_loss : MethodName := ⟨RX12, "loss", "(I)I"⟩
abbrev cX12_may : ByteArray := prog_14_method_59_code
def yX12_may : MethodName := ⟨RX12, "may", "()I"⟩
abbrev cX12_mayNow : ByteArray := prog_14_method_58_code
def yX12_mayNow : MethodName := ⟨RX12, "mayNow", "()I"⟩
abbrev cX12_mean : ByteArray := prog_14_method_117_code
def yX12_mean : MethodName := ⟨RX12, "mean", "(II)J"⟩
abbrev cX12_open : ByteArray := prog_14_method_109_code
def yX12_open : MethodName := ⟨RX12, "open", "()I"⟩
abbrev cX12_openings : ByteArray := prog_14_method_143_code
def yX12_openings : MethodName := ⟨RX12, "openings", "(II)I"⟩
abbrev cX12_place : ByteArray := prog_14_method_20_code
def yX12_place : MethodName := ⟨RX12, "place", "()I"⟩
abbrev cX12_play : ByteArray := prog_14_method_62_code
def yX12_play : MethodName := ⟨RX12, "play", "(I)I"⟩
abbrev cX12_quarrel : ByteArray := prog_14_method_144_code
def yX12_quarrel : MethodName := ⟨RX12, "quarrel", "(II)I"⟩
abbrev cX12_restore : ByteArray := prog_14_method_147_code
def yX12_restore : MethodName := ⟨RX12, "restore", "(I)Z"⟩
abbrev cX12_revoke : ByteArray := prog_14_method_63_code
def yX12_revoke : MethodName := ⟨RX12, "revoke", "(I)I"⟩
abbrev cX12_revokes : ByteArray := prog_14_method_72_code
def yX12_revokes : MethodName := ⟨RX12, "revokes", "(I)I"⟩
abbrev cX12_safe : ByteArray := prog_14_method_121_code
def yX12_safe : MethodName := ⟨RX12, "safe", "(II)I"⟩
abbrev cX12_says : ByteArray := prog_14_method_81_code
def yX12_says : MethodName := ⟨RX12, "says", "(III)I"⟩
abbrev cX12_spread : ByteArray := prog_14_method_120_code
def yX12_spread : MethodName := ⟨RX12, "spread", "(III)I"⟩
abbrev cX12_sure : ByteArray := prog_14_method_94_code
def yX12_sure : MethodName := ⟨RX12, "sure", "(II)I"⟩
abbrev cX12_told : ByteArray := prog_14_method_139_code
def yX12_told : MethodName := ⟨RX12, "told", "(III)I"⟩
abbrev cX12_tricks : ByteArray := prog_14_method_70_code
def yX12_tricks : MethodName := ⟨RX12, "tricks", "(I)I"⟩
abbrev cX12_trumpSuit : ByteArray := prog_14_method_39_code
def yX12_trumpSuit : MethodName := ⟨RX12, "trumpSuit", "()I"⟩
abbrev cX12_turn : ByteArray := prog_14_method_56_code
def yX12_turn : MethodName := ⟨RX12, "turn", "()I"⟩
abbrev cX12_turnNow : ByteArray := prog_14_method_55_code
def yX12_turnNow : MethodName := ⟨RX12, "turnNow", "()I"⟩
abbrev cX12_undo : ByteArray := prog_14_method_64_code
def yX12_undo : MethodName := ⟨RX12, "undo", "()I"⟩
abbrev cX12_winner : ByteArray := prog_14_method_71_code
def yX12_winner : MethodName := ⟨RX12, "winner", "(I)I"⟩
abbrev cX12_worth : ByteArray := prog_14_method_127_code
def yX12_worth : MethodName := ⟨RX12, "worth", "(I)J"⟩
abbrev cX3_isOver : ByteArray := prog_5_method_10_code
def yX3_isOver : MethodName := ⟨RX3, "isOver", "()Z"⟩
abbrev cX3_legal : ByteArray := prog_5_method_12_code
def yX3_legal : MethodName := ⟨RX3, "legal", "()I"⟩
abbrev cX3_wonBy : ByteArray := prog_5_method_22_code
def yX3_wonBy : MethodName := ⟨RX3, "wonBy", "(I)I"⟩
abbrev cX7_handsWithOneCard : ByteArray := prog_9_method_2_code
def yX7_handsWithOneCard : MethodName := ⟨RX7, "handsWithOneCard", "()I"⟩
abbrev cX7_untouched : ByteArray := prog_9_method_7_code
def yX7_untouched : MethodName := ⟨RX7, "untouched", "()I"⟩
theorem kw_24 : Cond.selects "SignalTable" yX11_isInHand yX11_isInHand ∈ lwg := wu_mem (i := 24) (by decide +kernel) rfl
theorem kw_30 : Cond.selects "SignalTable" yX11_areCustoms yX11_areCustoms ∈ lwg := wu_mem (i := 30) (by decide +kernel) rfl
theorem kw_31 : Cond.selects "SignalTable" yX11_canSee yX11_canSee ∈ lwg := wu_mem (i := 31) (by decide +kernel) rfl
theorem kw_50 : Cond.selects "SignalTable" yX11_refusal yX11_refusal ∈ lwg := wu_mem (i := 50) (by decide +kernel) rfl
theorem kw_55 : Cond.selects "SignalTable" yX11_canGain yX11_canGain ∈ lwg := wu_mem (i := 55) (by decide +kernel) rfl
theorem kw_58 : Cond.selects "SignalTable" yX11_isCustom yX11_isCustom ∈ lwg := wu_mem (i := 58) (by decide +kernel) rfl
theorem kw_60 : Cond.selects "SignalTable$Openings" yX7_handsWithOneCard yX7_handsWithOneCard ∈ lwg := wu_mem (i := 60) (by decide +kernel) rfl
theorem kw_61 : Cond.selects "SignalTable" yX11_slotsInUse yX11_slotsInUse ∈ lwg := wu_mem (i := 61) (by decide +kernel) rfl
theorem kw_81 : Cond.selects "SignalTableModel" yX12_cards yX12_cards ∈ lwg := wu_mem (i := 81) (by decide +kernel) rfl
theorem kw_82 : Cond.selects "SignalTableModel" yX12_handSize yX12_handSize ∈ lwg := wu_mem (i := 82) (by decide +kernel) rfl
theorem kw_86 : Cond.selects "SignalTableModel" yX12_turnNow yX12_turnNow ∈ lwg := wu_mem (i := 86) (by decide +kernel) rfl
theorem kw_90 : Cond.selects "SignalTableModel" yX12_trumpSuit yX12_trumpSuit ∈ lwg := wu_mem (i := 90) (by decide +kernel) rfl
theorem kw_91 : Cond.selects "SignalTableModel" yX12_mayNow yX12_mayNow ∈ lwg := wu_mem (i := 91) (by decide +kernel) rfl
theorem kw_94 : Cond.selects "SignalTableModel" yX12_canPlay yX12_canPlay ∈ lwg := wu_mem (i := 94) (by decide +kernel) rfl
theorem kw_102 : Cond.selects "SignalTableModel" yX12_areCustoms yX12_areCustoms ∈ lwg := wu_mem (i := 102) (by decide +kernel) rfl
theorem kw_114 : Cond.selects "SignalTableModel" yX12_canAsk yX12_canAsk ∈ lwg := wu_mem (i := 114) (by decide +kernel) rfl
theorem kw_136 : Cond.selects "SignalTableModel" yX12_canMean yX12_canMean ∈ lwg := wu_mem (i := 136) (by decide +kernel) rfl
theorem kw_143 : Cond.selects "SignalTableModel" yX12_canGain yX12_canGain ∈ lwg := wu_mem (i := 143) (by decide +kernel) rfl
theorem kw_149 : Cond.selects "SignalTableModel" yX12_isCustom yX12_isCustom ∈ lwg := wu_mem (i := 149) (by decide +kernel) rfl
theorem kw_154 : Cond.initialized "SignalTable" ∈ lwg := wu_mem (i := 154) (by decide +kernel) rfl
theorem kw_163 : Cond.initialized "SignalTable$Game" ∈ lwg := wu_mem (i := 163) (by decide +kernel) rfl
theorem kw_169 : Cond.initialized "SignalTable$Openings" ∈ lwg := wu_mem (i := 169) (by decide +kernel) rfl
theorem kw_171 : Cond.initialized "SignalTableModel" ∈ lwg := wu_mem (i := 171) (by decide +kernel) rfl
theorem kw_191 : Cond.fieldLink "SignalTable" 358 "SignalTable$Laws" "suits" "I" ∈ lwg := wu_mem (i := 191) (by decide +kernel) rfl
theorem kw_194 : Cond.fieldLink "SignalTable" 361 "SignalTable$Laws" "ranks" "I" ∈ lwg := wu_mem (i := 194) (by decide +kernel) rfl
theorem kw_200 : Cond.fieldLink "SignalTable" 364 "SignalTable$Laws" "trump" "I" ∈ lwg := wu_mem (i := 200) (by decide +kernel) rfl
theorem kw_203 : Cond.fieldLink "SignalTable$Openings" 59 "SignalTable$Laws" "customs" "I" ∈ lwg := wu_mem (i := 203) (by decide +kernel) rfl
theorem kw_204 : Cond.fieldLink "SignalTable" 326 "SignalTable$Laws" "customs" "I" ∈ lwg := wu_mem (i := 204) (by decide +kernel) rfl
theorem kw_220 : Cond.fieldLink "SignalTable$Openings" 19 "SignalTable$Laws" "cards" "I" ∈ lwg := wu_mem (i := 220) (by decide +kernel) rfl
theorem kw_225 : Cond.fieldLink "SignalTable" 267 "SignalTable$Laws" "cards" "I" ∈ lwg := wu_mem (i := 225) (by decide +kernel) rfl
theorem kw_226 : Cond.fieldLink "SignalTable$Openings" 28 "SignalTable$Laws" "handSize" "I" ∈ lwg := wu_mem (i := 226) (by decide +kernel) rfl
theorem kw_230 : Cond.fieldLink "SignalTable" 154 "SignalTable$Laws" "handSize" "I" ∈ lwg := wu_mem (i := 230) (by decide +kernel) rfl
theorem kw_243 : Cond.fieldLink "SignalTable$Openings" 25 "SignalTable$Laws" "handCount" "I" ∈ lwg := wu_mem (i := 243) (by decide +kernel) rfl
theorem kw_388 : Cond.fieldLink "SignalTable" 130 "SignalTable$Reader" "place" "I" ∈ lwg := wu_mem (i := 388) (by decide +kernel) rfl
theorem kw_422 : Cond.fieldLink "SignalTable$Game" 57 "SignalTable$Game" "dealtOut" "Z" ∈ lwg := wu_mem (i := 422) (by decide +kernel) rfl
theorem kw_423 : Cond.fieldLink "SignalTable" 157 "SignalTable$Game" "dealtOut" "Z" ∈ lwg := wu_mem (i := 423) (by decide +kernel) rfl
theorem kw_433 : Cond.fieldLink "SignalTable$Game" 18 "SignalTable$Game" "turn" "I" ∈ lwg := wu_mem (i := 433) (by decide +kernel) rfl
theorem kw_437 : Cond.fieldLink "SignalTable" 177 "SignalTable$Game" "turn" "I" ∈ lwg := wu_mem (i := 437) (by decide +kernel) rfl
theorem kw_438 : Cond.fieldLink "SignalTable$Game" 61 "SignalTable$Game" "size" "I" ∈ lwg := wu_mem (i := 438) (by decide +kernel) rfl
theorem kw_443 : Cond.fieldLink "SignalTable" 161 "SignalTable$Game" "size" "I" ∈ lwg := wu_mem (i := 443) (by decide +kernel) rfl
theorem kw_670 : Cond.fieldLink "SignalTable" 333 "SignalTable$Books" "size" "I" ∈ lwg := wu_mem (i := 670) (by decide +kernel) rfl
theorem kw_684 : Cond.fieldLink "SignalTable$Openings" 9 "SignalTable$Openings" "laws" "LSignalTable$Laws;" ∈ lwg := wu_mem (i := 684) (by decide +kernel) rfl
theorem kw_708 : Cond.fieldLink "SignalTable" 104 "SignalTable" "tapeSize" "I" ∈ lwg := wu_mem (i := 708) (by decide +kernel) rfl
theorem kw_709 : Cond.fieldLink "SignalTable" 16 "SignalTable" "laws" "LSignalTable$Laws;" ∈ lwg := wu_mem (i := 709) (by decide +kernel) rfl
theorem kw_711 : Cond.fieldLink "SignalTable" 32 "SignalTable" "reader" "LSignalTable$Reader;" ∈ lwg := wu_mem (i := 711) (by decide +kernel) rfl
theorem kw_712 : Cond.fieldLink "SignalTable" 41 "SignalTable" "game" "LSignalTable$Game;" ∈ lwg := wu_mem (i := 712) (by decide +kernel) rfl
theorem kw_714 : Cond.fieldLink "SignalTable" 48 "SignalTable" "slots" "[LSignalTable$Game;" ∈ lwg := wu_mem (i := 714) (by decide +kernel) rfl
theorem kw_719 : Cond.fieldLink "SignalTable" 87 "SignalTable" "shelf" "LSignalTable$Books;" ∈ lwg := wu_mem (i := 719) (by decide +kernel) rfl
theorem kw_720 : Cond.fieldLink "SignalTable" 94 "SignalTable" "firstLeads" "LSignalTable$Openings;" ∈ lwg := wu_mem (i := 720) (by decide +kernel) rfl
theorem kw_971 : Cond.methodLink "SignalTable" 180 yX3_legal ∈ lwg := wu_mem (i := 971) (by decide +kernel) rfl
theorem kw_972 : Cond.instanceMethod yX3_legal ∈ lwg := wu_mem (i := 972) (by decide +kernel) rfl
theorem kw_973 : Cond.selects "SignalTable$Game" yX3_legal yX3_legal ∈ lwg := wu_mem (i := 973) (by decide +kernel) rfl
theorem kw_974 : Cond.code yX3_legal cX3_legal 3 (some .int) ∈ lwg := wu_mem (i := 974) (by decide +kernel) rfl
theorem kw_983 : Cond.methodLink "SignalTable" 183 yX11_isInHand ∈ lwg := wu_mem (i := 983) (by decide +kernel) rfl
theorem kw_985 : Cond.instanceMethod yX11_isInHand ∈ lwg := wu_mem (i := 985) (by decide +kernel) rfl
theorem kw_986 : Cond.code yX11_isInHand cX11_isInHand 2 (some .boolean) ∈ lwg := wu_mem (i := 986) (by decide +kernel) rfl
theorem kw_1069 : Cond.methodLink "SignalTable" 210 yX3_wonBy ∈ lwg := wu_mem (i := 1069) (by decide +kernel) rfl
theorem kw_1070 : Cond.instanceMethod yX3_wonBy ∈ lwg := wu_mem (i := 1070) (by decide +kernel) rfl
theorem kw_1071 : Cond.selects "SignalTable$Game" yX3_wonBy yX3_wonBy ∈ lwg := wu_mem (i := 1071) (by decide +kernel) rfl
theorem kw_1072 : Cond.code yX3_wonBy cX3_wonBy 4 (some .int) ∈ lwg := wu_mem (i := 1072) (by decide +kernel) rfl
theorem kw_1086 : Cond.methodLink "SignalTable" 222 yX11_areCustoms ∈ lwg := wu_mem (i := 1086) (by decide +kernel) rfl
theorem kw_1088 : Cond.instanceMethod yX11_areCustoms ∈ lwg := wu_mem (i := 1088) (by decide +kernel) rfl
theorem kw_1089 : Cond.code yX11_areCustoms cX11_areCustoms 2 (some .boolean) ∈ lwg := wu_mem (i := 1089) (by decide +kernel) rfl
theorem kw_1094 : Cond.methodLink "SignalTable" 231 yX11_canSee ∈ lwg := wu_mem (i := 1094) (by decide +kernel) rfl
theorem kw_1096 : Cond.instanceMethod yX11_canSee ∈ lwg := wu_mem (i := 1096) (by decide +kernel) rfl
theorem kw_1097 : Cond.code yX11_canSee cX11_canSee 3 (some .boolean) ∈ lwg := wu_mem (i := 1097) (by decide +kernel) rfl
theorem kw_1259 : Cond.methodLink "SignalTable" 273 yX11_refusal ∈ lwg := wu_mem (i := 1259) (by decide +kernel) rfl
theorem kw_1261 : Cond.instanceMethod yX11_refusal ∈ lwg := wu_mem (i := 1261) (by decide +kernel) rfl
theorem kw_1262 : Cond.code yX11_refusal cX11_refusal 2 (some .int) ∈ lwg := wu_mem (i := 1262) (by decide +kernel) rfl
theorem kw_1368 : Cond.constantLong "SignalTable" 311 (-1000000) ∈ lwg := wu_mem (i := 1368) (by decide +kernel) rfl
theorem kw_1379 : Cond.methodLink "SignalTable" 319 yX11_canGain ∈ lwg := wu_mem (i := 1379) (by decide +kernel) rfl
theorem kw_1381 : Cond.instanceMethod yX11_canGain ∈ lwg := wu_mem (i := 1381) (by decide +kernel) rfl
theorem kw_1382 : Cond.code yX11_canGain cX11_canGain 2 (some .boolean) ∈ lwg := wu_mem (i := 1382) (by decide +kernel) rfl
theorem kw_1414 : Cond.methodLink "SignalTable" 329 yX3_isOver ∈ lwg := wu_mem (i := 1414) (by decide +kernel) rfl
theorem kw_1415 : Cond.instanceMethod yX3_isOver ∈ lwg := wu_mem (i := 1415) (by decide +kernel) rfl
theorem kw_1416 : Cond.selects "SignalTable$Game" yX3_isOver yX3_isOver ∈ lwg := wu_mem (i := 1416) (by decide +kernel) rfl
theorem kw_1417 : Cond.code yX3_isOver cX3_isOver 1 (some .boolean) ∈ lwg := wu_mem (i := 1417) (by decide +kernel) rfl
theorem kw_1437 : Cond.methodLink "SignalTable" 340 yX11_isCustom ∈ lwg := wu_mem (i := 1437) (by decide +kernel) rfl
theorem kw_1439 : Cond.instanceMethod yX11_isCustom ∈ lwg := wu_mem (i := 1439) (by decide +kernel) rfl
theorem kw_1440 : Cond.code yX11_isCustom cX11_isCustom 2 (some .boolean) ∈ lwg := wu_mem (i := 1440) (by decide +kernel) rfl
theorem kw_1459 : Cond.methodLink "SignalTable$Openings" 48 yX7_handsWithOneCard ∈ lwg := wu_mem (i := 1459) (by decide +kernel) rfl
theorem kw_1461 : Cond.instanceMethod yX7_handsWithOneCard ∈ lwg := wu_mem (i := 1461) (by decide +kernel) rfl
theorem kw_1462 : Cond.code yX7_handsWithOneCard cX7_handsWithOneCard 1 (some .int) ∈ lwg := wu_mem (i := 1462) (by decide +kernel) rfl
theorem kw_1480 : Cond.methodLink "SignalTable" 355 yX7_untouched ∈ lwg := wu_mem (i := 1480) (by decide +kernel) rfl
theorem kw_1481 : Cond.instanceMethod yX7_untouched ∈ lwg := wu_mem (i := 1481) (by decide +kernel) rfl
theorem kw_1482 : Cond.selects "SignalTable$Openings" yX7_untouched yX7_untouched ∈ lwg := wu_mem (i := 1482) (by decide +kernel) rfl
theorem kw_1483 : Cond.code yX7_untouched cX7_untouched 5 (some .int) ∈ lwg := wu_mem (i := 1483) (by decide +kernel) rfl
theorem kw_1496 : Cond.methodLink "SignalTable" 367 yX11_slotsInUse ∈ lwg := wu_mem (i := 1496) (by decide +kernel) rfl
theorem kw_1498 : Cond.instanceMethod yX11_slotsInUse ∈ lwg := wu_mem (i := 1498) (by decide +kernel) rfl
theorem kw_1499 : Cond.code yX11_slotsInUse cX11_slotsInUse 3 (some .int) ∈ lwg := wu_mem (i := 1499) (by decide +kernel) rfl
theorem kw_1516 : Cond.fieldLink "SignalTableModel" 206 "SignalTableModel" "taped" "I" ∈ lwg := wu_mem (i := 1516) (by decide +kernel) rfl
theorem kw_1531 : Cond.fieldLink "SignalTableModel" 37 "SignalTableModel" "place" "I" ∈ lwg := wu_mem (i := 1531) (by decide +kernel) rfl
theorem kw_1532 : Cond.fieldLink "SignalTableModel" 274 "SignalTableModel" "live" "I" ∈ lwg := wu_mem (i := 1532) (by decide +kernel) rfl
theorem kw_1536 : Cond.fieldLink "SignalTableModel" 43 "SignalTableModel" "suits" "[I" ∈ lwg := wu_mem (i := 1536) (by decide +kernel) rfl
theorem kw_1537 : Cond.fieldLink "SignalTableModel" 46 "SignalTableModel" "ranks" "[I" ∈ lwg := wu_mem (i := 1537) (by decide +kernel) rfl
theorem kw_1538 : Cond.fieldLink "SignalTableModel" 49 "SignalTableModel" "trump" "[I" ∈ lwg := wu_mem (i := 1538) (by decide +kernel) rfl
theorem kw_1539 : Cond.fieldLink "SignalTableModel" 52 "SignalTableModel" "customs" "[I" ∈ lwg := wu_mem (i := 1539) (by decide +kernel) rfl
theorem kw_1559 : Cond.fieldLink "SignalTableModel" 292 "SignalTableModel" "isDealt" "Z" ∈ lwg := wu_mem (i := 1559) (by decide +kernel) rfl
theorem kw_1562 : Cond.fieldLink "SignalTableModel" 296 "SignalTableModel" "played" "I" ∈ lwg := wu_mem (i := 1562) (by decide +kernel) rfl
theorem kw_1600 : Cond.fieldLink "SignalTableModel" 299 "SignalTableModel" "books" "I" ∈ lwg := wu_mem (i := 1600) (by decide +kernel) rfl
theorem kw_1603 : Cond.fieldLink "SignalTableModel" 184 "SignalTableModel" "isHeld" "[Z" ∈ lwg := wu_mem (i := 1603) (by decide +kernel) rfl
theorem kw_1863 : Cond.methodLink "SignalTableModel" 310 yX12_in ∈ lwg := wu_mem (i := 1863) (by decide +kernel) rfl
theorem kw_1864 : Cond.static yX12_in ∈ lwg := wu_mem (i := 1864) (by decide +kernel) rfl
theorem kw_1865 : Cond.code yX12_in cX12_in 3 (some .boolean) ∈ lwg := wu_mem (i := 1865) (by decide +kernel) rfl
theorem kw_1906 : Cond.methodLink "SignalTableModel" 351 yX12_cards ∈ lwg := wu_mem (i := 1906) (by decide +kernel) rfl
theorem kw_1908 : Cond.instanceMethod yX12_cards ∈ lwg := wu_mem (i := 1908) (by decide +kernel) rfl
theorem kw_1909 : Cond.code yX12_cards cX12_cards 1 (some .int) ∈ lwg := wu_mem (i := 1909) (by decide +kernel) rfl
theorem kw_1917 : Cond.methodLink "SignalTableModel" 365 yX12_handSize ∈ lwg := wu_mem (i := 1917) (by decide +kernel) rfl
theorem kw_1919 : Cond.instanceMethod yX12_handSize ∈ lwg := wu_mem (i := 1919) (by decide +kernel) rfl
theorem kw_1920 : Cond.code yX12_handSize cX12_handSize 1 (some .int) ∈ lwg := wu_mem (i := 1920) (by decide +kernel) rfl
theorem kw_1955 : Cond.methodLink "SignalTableModel" 396 yX12_turnNow ∈ lwg := wu_mem (i := 1955) (by decide +kernel) rfl
theorem kw_1957 : Cond.instanceMethod yX12_turnNow ∈ lwg := wu_mem (i := 1957) (by decide +kernel) rfl
theorem kw_1958 : Cond.code yX12_turnNow cX12_turnNow 1 (some .int) ∈ lwg := wu_mem (i := 1958) (by decide +kernel) rfl
theorem kw_1971 : Cond.methodLink "SignalTableModel" 386 yX12_trumpSuit ∈ lwg := wu_mem (i := 1971) (by decide +kernel) rfl
theorem kw_1973 : Cond.instanceMethod yX12_trumpSuit ∈ lwg := wu_mem (i := 1973) (by decide +kernel) rfl
theorem kw_1974 : Cond.code yX12_trumpSuit cX12_trumpSuit 1 (some .int) ∈ lwg := wu_mem (i := 1974) (by decide +kernel) rfl
theorem kw_1979 : Cond.methodLink "SignalTableModel" 405 yX12_mayNow ∈ lwg := wu_mem (i := 1979) (by decide +kernel) rfl
theorem kw_1981 : Cond.instanceMethod yX12_mayNow ∈ lwg := wu_mem (i := 1981) (by decide +kernel) rfl
theorem kw_1982 : Cond.code yX12_mayNow cX12_mayNow 4 (some .int) ∈ lwg := wu_mem (i := 1982) (by decide +kernel) rfl
theorem kw_1995 : Cond.methodLink "SignalTableModel" 411 yX12_canPlay ∈ lwg := wu_mem (i := 1995) (by decide +kernel) rfl
theorem kw_1997 : Cond.instanceMethod yX12_canPlay ∈ lwg := wu_mem (i := 1997) (by decide +kernel) rfl
theorem kw_1998 : Cond.code yX12_canPlay cX12_canPlay 3 (some .boolean) ∈ lwg := wu_mem (i := 1998) (by decide +kernel) rfl
theorem kw_2055 : Cond.methodLink "SignalTableModel" 455 yX12_areCustoms ∈ lwg := wu_mem (i := 2055) (by decide +kernel) rfl
theorem kw_2057 : Cond.instanceMethod yX12_areCustoms ∈ lwg := wu_mem (i := 2057) (by decide +kernel) rfl
theorem kw_2058 : Cond.code yX12_areCustoms cX12_areCustoms 2 (some .boolean) ∈ lwg := wu_mem (i := 2058) (by decide +kernel) rfl
theorem kw_2107 : Cond.methodLink "SignalTableModel" 502 yX12_canAsk ∈ lwg := wu_mem (i := 2107) (by decide +kernel) rfl
theorem kw_2109 : Cond.instanceMethod yX12_canAsk ∈ lwg := wu_mem (i := 2109) (by decide +kernel) rfl
theorem kw_2110 : Cond.code yX12_canAsk cX12_canAsk 3 (some .boolean) ∈ lwg := wu_mem (i := 2110) (by decide +kernel) rfl
theorem kw_2226 : Cond.methodLink "SignalTableModel" 572 yX12_canMean ∈ lwg := wu_mem (i := 2226) (by decide +kernel) rfl
theorem kw_2228 : Cond.instanceMethod yX12_canMean ∈ lwg := wu_mem (i := 2228) (by decide +kernel) rfl
theorem kw_2229 : Cond.code yX12_canMean cX12_canMean 2 (some .boolean) ∈ lwg := wu_mem (i := 2229) (by decide +kernel) rfl
theorem kw_2230 : Cond.constantLong "SignalTableModel" 575 (-1) ∈ lwg := wu_mem (i := 2230) (by decide +kernel) rfl
theorem kw_2287 : Cond.constantLong "SignalTableModel" 594 (-1000000) ∈ lwg := wu_mem (i := 2287) (by decide +kernel) rfl
theorem kw_2292 : Cond.methodLink "SignalTableModel" 614 yX12_canGain ∈ lwg := wu_mem (i := 2292) (by decide +kernel) rfl
theorem kw_2294 : Cond.instanceMethod yX12_canGain ∈ lwg := wu_mem (i := 2294) (by decide +kernel) rfl
theorem kw_2295 : Cond.code yX12_canGain cX12_canGain 2 (some .boolean) ∈ lwg := wu_mem (i := 2295) (by decide +kernel) rfl
theorem kw_2334 : Cond.methodLink "SignalTableModel" 630 yX12_isCustom ∈ lwg := wu_mem (i := 2334) (by decide +kernel) rfl
theorem kw_2336 : Cond.instanceMethod yX12_isCustom ∈ lwg := wu_mem (i := 2336) (by decide +kernel) rfl
theorem kw_2337 : Cond.code yX12_isCustom cX12_isCustom 2 (some .boolean) ∈ lwg := wu_mem (i := 2337) (by decide +kernel) rfl
theorem caV_SignalTable_Openings_48 : CaV "SignalTable$Openings" RX7 48 yX7_handsWithOneCard cX7_handsWithOneCard 1 (some .int) 0 := ⟨kw_1459, kw_1461, kw_60, kw_169, kw_1462, rfl, by decide +kernel, by decide +kernel, by decide +kernel⟩
theorem caV_SignalTable_222 : CaV "SignalTable" RX11 222 yX11_areCustoms cX11_areCustoms 2 (some .boolean) 1 := ⟨kw_1086, kw_1088, kw_30, kw_154, kw_1089, rfl, by decide +kernel, by decide +kernel, by decide +kernel⟩
theorem caV_SignalTable_180 : CaV "SignalTable" RX3 180 yX3_legal cX3_legal 3 (some .int) 0 := ⟨kw_971, kw_972, kw_973, kw_163, kw_974, rfl, by decide +kernel, by decide +kernel, by decide +kernel⟩
theorem caV_SignalTable_183 : CaV "SignalTable" RX11 183 yX11_isInHand cX11_isInHand 2 (some .boolean) 1 := ⟨kw_983, kw_985, kw_24, kw_154, kw_986, rfl, by decide +kernel, by decide +kernel, by decide +kernel⟩
theorem caV_SignalTable_210 : CaV "SignalTable" RX3 210 yX3_wonBy cX3_wonBy 4 (some .int) 1 := ⟨kw_1069, kw_1070, kw_1071, kw_163, kw_1072, rfl, by decide +kernel, by decide +kernel, by decide +kernel⟩
theorem caV_SignalTable_231 : CaV "SignalTable" RX11 231 yX11_canSee cX11_canSee 3 (some .boolean) 2 := ⟨kw_1094, kw_1096, kw_31, kw_154, kw_1097, rfl, by decide +kernel, by decide +kernel, by decide +kernel⟩
theorem caV_SignalTable_273 : CaV "SignalTable" RX11 273 yX11_refusal cX11_refusal 2 (some .int) 1 := ⟨kw_1259, kw_1261, kw_50, kw_154, kw_1262, rfl, by decide +kernel, by decide +kernel, by decide +kernel⟩
theorem caV_SignalTable_319 : CaV "SignalTable" RX11 319 yX11_canGain cX11_canGain 2 (some .boolean) 1 := ⟨kw_1379, kw_1381, kw_55, kw_154, kw_1382, rfl, by decide +kernel, by decide +kernel, by decide +kernel⟩
theorem caV_SignalTable_329 : CaV "SignalTable" RX3 329 yX3_isOver cX3_isOver 1 (some .boolean) 0 := ⟨kw_1414, kw_1415, kw_1416, kw_163, kw_1417, rfl, by decide +kernel, by decide +kernel, by decide +kernel⟩
theorem caV_SignalTable_340 : CaV "SignalTable" RX11 340 yX11_isCustom cX11_isCustom 2 (some .boolean) 1 := ⟨kw_1437, kw_1439, kw_58, kw_154, kw_1440, rfl, by decide +kernel, by decide +kernel, by decide +kernel⟩
theorem caV_SignalTable_355 : CaV "SignalTable" RX7 355 yX7_untouched cX7_untouched 5 (some .int) 0 := ⟨kw_1480, kw_1481, kw_1482, kw_169, kw_1483, rfl, by decide +kernel, by decide +kernel, by decide +kernel⟩
theorem caV_SignalTable_367 : CaV "SignalTable" RX11 367 yX11_slotsInUse cX11_slotsInUse 3 (some .int) 0 := ⟨kw_1496, kw_1498, kw_61, kw_154, kw_1499, rfl, by decide +kernel, by decide +kernel, by decide +kernel⟩
theorem caV_SignalTableModel_351 : CaV "SignalTableModel" RX12 351 yX12_cards cX12_cards 1 (some .int) 0 := ⟨kw_1906, kw_1908, kw_81, kw_171, kw_1909, rfl, by decide +kernel, by decide +kernel, by decide +kernel⟩
theorem caS_SignalTableModel_310 : CaS "SignalTableModel" 310 yX12_in cX12_in 3 (some .boolean) 3 := ⟨kw_1863, kw_1864, kw_171, kw_1865, by decide +kernel, by decide +kernel, by decide +kernel⟩
theorem caV_SignalTableModel_396 : CaV "SignalTableModel" RX12 396 yX12_turnNow cX12_turnNow 1 (some .int) 0 := ⟨kw_1955, kw_1957, kw_86, kw_171, kw_1958, rfl, by decide +kernel, by decide +kernel, by decide +kernel⟩
theorem caV_SignalTableModel_405 : CaV "SignalTableModel" RX12 405 yX12_mayNow cX12_mayNow 4 (some .int) 0 := ⟨kw_1979, kw_1981, kw_91, kw_171, kw_1982, rfl, by decide +kernel, by decide +kernel, by decide +kernel⟩
theorem caV_SignalTableModel_411 : CaV "SignalTableModel" RX12 411 yX12_canPlay cX12_canPlay 3 (some .boolean) 1 := ⟨kw_1995, kw_1997, kw_94, kw_171, kw_1998, rfl, by decide +kernel, by decide +kernel, by decide +kernel⟩
theorem caV_SignalTableModel_502 : CaV "SignalTableModel" RX12 502 yX12_canAsk cX12_canAsk 3 (some .boolean) 2 := ⟨kw_2107, kw_2109, kw_114, kw_171, kw_2110, rfl, by decide +kernel, by decide +kernel, by decide +kernel⟩
theorem caV_SignalTableModel_572 : CaV "SignalTableModel" RX12 572 yX12_canMean cX12_canMean 2 (some .boolean) 1 := ⟨kw_2226, kw_2228, kw_136, kw_171, kw_2229, rfl, by decide +kernel, by decide +kernel, by decide +kernel⟩
theorem caV_SignalTableModel_455 : CaV "SignalTableModel" RX12 455 yX12_areCustoms cX12_areCustoms 2 (some .boolean) 1 := ⟨kw_2055, kw_2057, kw_102, kw_171, kw_2058, rfl, by decide +kernel, by decide +kernel, by decide +kernel⟩
theorem caV_SignalTableModel_614 : CaV "SignalTableModel" RX12 614 yX12_canGain cX12_canGain 2 (some .boolean) 1 := ⟨kw_2292, kw_2294, kw_143, kw_171, kw_2295, rfl, by decide +kernel, by decide +kernel, by decide +kernel⟩
theorem caV_SignalTableModel_630 : CaV "SignalTableModel" RX12 630 yX12_isCustom cX12_isCustom 2 (some .boolean) 1 := ⟨kw_2334, kw_2336, kw_149, kw_171, kw_2337, rfl, by decide +kernel, by decide +kernel, by decide +kernel⟩
theorem caV_SignalTableModel_365 : CaV "SignalTableModel" RX12 365 yX12_handSize cX12_handSize 1 (some .int) 0 := ⟨kw_1917, kw_1919, kw_82, kw_171, kw_1920, rfl, by decide +kernel, by decide +kernel, by decide +kernel⟩
theorem caV_SignalTableModel_386 : CaV "SignalTableModel" RX12 386 yX12_trumpSuit cX12_trumpSuit 1 (some .int) 0 := ⟨kw_1971, kw_1973, kw_90, kw_171, kw_1974, rfl, by decide +kernel, by decide +kernel, by decide +kernel⟩
theorem dX11_after_0 : decode cX11_after 0 = .ok (.aload_n 0, 1) := by decide +kernel
theorem dX11_after_1 : decode cX11_after 1 = .ok (.iload_n 1, 1) := by decide +kernel
theorem dX11_after_2 : decode cX11_after 2 = .ok (.iload_n 3, 1) := by decide +kernel
theorem dX11_after_3 : decode cX11_after 3 = .ok (.invokevirtual 231, 3) := by decide +kernel
theorem dX11_after_6 : decode cX11_after 6 = .ok (.ifCond .eq 18, 3) := by decide +kernel
theorem dX11_after_24 : decode cX11_after 24 = .ok (.iconst (-1), 1) := by decide +kernel
theorem dX11_after_25 : decode cX11_after 25 = .ok (.ireturn, 1) := by decide +kernel
theorem dX11_areCustoms_0 : decode cX11_areCustoms 0 = .ok (.iload_n 1, 1) := by decide +kernel
theorem dX11_areCustoms_1 : decode cX11_areCustoms 1 = .ok (.ifCond .lt 20, 3) := by decide +kernel
theorem dX11_areCustoms_4 : decode cX11_areCustoms 4 = .ok (.iload_n 1, 1) := by decide +kernel
theorem dX11_areCustoms_5 : decode cX11_areCustoms 5 = .ok (.iconst 1, 1) := by decide +kernel
theorem dX11_areCustoms_6 : decode cX11_areCustoms 6 = .ok (.aload_n 0, 1) := by decide +kernel
theorem dX11_areCustoms_7 : decode cX11_areCustoms 7 = .ok (.getfield 16, 3) := by decide +kernel
theorem dX11_areCustoms_10 : decode cX11_areCustoms 10 = .ok (.getfield 326, 3) := by decide +kernel
theorem dX11_areCustoms_13 : decode cX11_areCustoms 13 = .ok (.ishl, 1) := by decide +kernel
theorem dX11_areCustoms_14 : decode cX11_areCustoms 14 = .ok (.if_icmp .ge 7, 3) := by decide +kernel
theorem dX11_areCustoms_17 : decode cX11_areCustoms 17 = .ok (.iconst 1, 1) := by decide +kernel
theorem dX11_areCustoms_18 : decode cX11_areCustoms 18 = .ok (.goto 4, 3) := by decide +kernel
theorem dX11_areCustoms_21 : decode cX11_areCustoms 21 = .ok (.iconst 0, 1) := by decide +kernel
theorem dX11_areCustoms_22 : decode cX11_areCustoms 22 = .ok (.ireturn, 1) := by decide +kernel
theorem dX11_bestSet_0 : decode cX11_bestSet 0 = .ok (.iload_n 3, 1) := by decide +kernel
theorem dX11_bestSet_1 : decode cX11_bestSet 1 = .ok (.ifCond .lt 16, 3) := by decide +kernel
theorem dX11_bestSet_4 : decode cX11_bestSet 4 = .ok (.iload_n 3, 1) := by decide +kernel
theorem dX11_bestSet_5 : decode cX11_bestSet 5 = .ok (.iconst 1, 1) := by decide +kernel
theorem dX11_bestSet_6 : decode cX11_bestSet 6 = .ok (.if_icmp .gt 11, 3) := by decide +kernel
theorem dX11_bestSet_9 : decode cX11_bestSet 9 = .ok (.aload_n 0, 1) := by decide +kernel
theorem dX11_bestSet_10 : decode cX11_bestSet 10 = .ok (.iload_n 2, 1) := by decide +kernel
theorem dX11_bestSet_11 : decode cX11_bestSet 11 = .ok (.invokevirtual 319, 3) := by decide +kernel
theorem dX11_bestSet_14 : decode cX11_bestSet 14 = .ok (.ifCond .ne 7, 3) := by decide +kernel
theorem dX11_bestSet_17 : decode cX11_bestSet 17 = .ok (.sipush (-1000), 3) := by decide +kernel
theorem dX11_bestSet_20 : decode cX11_bestSet 20 = .ok (.ireturn, 1) := by decide +kernel
theorem dX11_book_0 : decode cX11_book 0 = .ok (.aload_n 0, 1) := by decide +kernel
theorem dX11_book_1 : decode cX11_book 1 = .ok (.getfield 41, 3) := by decide +kernel
theorem dX11_book_4 : decode cX11_book 4 = .ok (.invokevirtual 329, 3) := by decide +kernel
theorem dX11_book_7 : decode cX11_book 7 = .ok (.ifCond .eq 15, 3) := by decide +kernel
theorem dX11_book_22 : decode cX11_book 22 = .ok (.iconst (-1), 1) := by decide +kernel
theorem dX11_book_23 : decode cX11_book 23 = .ok (.ireturn, 1) := by decide +kernel
theorem dX11_canBe_0 : decode cX11_canBe 0 = .ok (.aload_n 0, 1) := by decide +kernel
theorem dX11_canBe_1 : decode cX11_canBe 1 = .ok (.iload_n 1, 1) := by decide +kernel
theorem dX11_canBe_2 : decode cX11_canBe 2 = .ok (.iload_n 2, 1) := by decide +kernel
theorem dX11_canBe_3 : decode cX11_canBe 3 = .ok (.invokevirtual 231, 3) := by decide +kernel
theorem dX11_canBe_6 : decode cX11_canBe 6 = .ok (.ifCond .ne 5, 3) := by decide +kernel
theorem dX11_canBe_9 : decode cX11_canBe 9 = .ok (.iconst (-1), 1) := by decide +kernel
theorem dX11_canBe_10 : decode cX11_canBe 10 = .ok (.ireturn, 1) := by decide +kernel
theorem dX11_canGain_0 : decode cX11_canGain 0 = .ok (.iload_n 1, 1) := by decide +kernel
theorem dX11_canGain_1 : decode cX11_canGain 1 = .ok (.iconst 1, 1) := by decide +kernel
theorem dX11_canGain_2 : decode cX11_canGain 2 = .ok (.if_icmp .lt 25, 3) := by decide +kernel
theorem dX11_canGain_5 : decode cX11_canGain 5 = .ok (.iload_n 1, 1) := by decide +kernel
theorem dX11_canGain_6 : decode cX11_canGain 6 = .ok (.bipush 20, 2) := by decide +kernel
theorem dX11_canGain_8 : decode cX11_canGain 8 = .ok (.if_icmp .gt 19, 3) := by decide +kernel
theorem dX11_canGain_11 : decode cX11_canGain 11 = .ok (.aload_n 0, 1) := by decide +kernel
theorem dX11_canGain_12 : decode cX11_canGain 12 = .ok (.getfield 16, 3) := by decide +kernel
theorem dX11_canGain_15 : decode cX11_canGain 15 = .ok (.getfield 267, 3) := by decide +kernel
theorem dX11_canGain_18 : decode cX11_canGain 18 = .ok (.bipush 8, 2) := by decide +kernel
theorem dX11_canGain_20 : decode cX11_canGain 20 = .ok (.if_icmp .ne 7, 3) := by decide +kernel
theorem dX11_canGain_27 : decode cX11_canGain 27 = .ok (.iconst 0, 1) := by decide +kernel
theorem dX11_canGain_28 : decode cX11_canGain 28 = .ok (.ireturn, 1) := by decide +kernel
theorem dX11_canSee_0 : decode cX11_canSee 0 = .ok (.aload_n 0, 1) := by decide +kernel
theorem dX11_canSee_1 : decode cX11_canSee 1 = .ok (.getfield 41, 3) := by decide +kernel
theorem dX11_canSee_4 : decode cX11_canSee 4 = .ok (.getfield 157, 3) := by decide +kernel
theorem dX11_canSee_7 : decode cX11_canSee 7 = .ok (.ifCond .eq 23, 3) := by decide +kernel
theorem dX11_canSee_30 : decode cX11_canSee 30 = .ok (.iconst 0, 1) := by decide +kernel
theorem dX11_canSee_31 : decode cX11_canSee 31 = .ok (.ireturn, 1) := by decide +kernel
theorem dX11_card_0 : decode cX11_card 0 = .ok (.iload_n 1, 1) := by decide +kernel
theorem dX11_card_1 : decode cX11_card 1 = .ok (.ifCond .lt 14, 3) := by decide +kernel
theorem dX11_card_4 : decode cX11_card 4 = .ok (.iload_n 1, 1) := by decide +kernel
theorem dX11_card_5 : decode cX11_card 5 = .ok (.aload_n 0, 1) := by decide +kernel
theorem dX11_card_6 : decode cX11_card 6 = .ok (.getfield 41, 3) := by decide +kernel
theorem dX11_card_9 : decode cX11_card 9 = .ok (.getfield 161, 3) := by decide +kernel
theorem dX11_card_12 : decode cX11_card 12 = .ok (.if_icmp .lt 5, 3) := by decide +kernel
theorem dX11_card_15 : decode cX11_card 15 = .ok (.iconst (-1), 1) := by decide +kernel
theorem dX11_card_16 : decode cX11_card 16 = .ok (.ireturn, 1) := by decide +kernel
theorem dX11_choice_0 : decode cX11_choice 0 = .ok (.aload_n 0, 1) := by decide +kernel
theorem dX11_choice_1 : decode cX11_choice 1 = .ok (.iload_n 1, 1) := by decide +kernel
theorem dX11_choice_2 : decode cX11_choice 2 = .ok (.invokevirtual 273, 3) := by decide +kernel
theorem dX11_choice_5 : decode cX11_choice 5 = .ok (.istore_n 2, 1) := by decide +kernel
theorem dX11_choice_6 : decode cX11_choice 6 = .ok (.iload_n 2, 1) := by decide +kernel
theorem dX11_choice_7 : decode cX11_choice 7 = .ok (.ifCond .eq 7, 3) := by decide +kernel
theorem dX11_choice_10 : decode cX11_choice 10 = .ok (.iload_n 2, 1) := by decide +kernel
theorem dX11_choice_11 : decode cX11_choice 11 = .ok (.goto 22, 3) := by decide +kernel
theorem dX11_choice_33 : decode cX11_choice 33 = .ok (.ireturn, 1) := by decide +kernel
theorem dX11_count_0 : decode cX11_count 0 = .ok (.iload_n 1, 1) := by decide +kernel
theorem dX11_count_1 : decode cX11_count 1 = .ok (.tableswitch 147 0 8 #[51, 59, 67, 75, 98, 106, 129, 137, 142], 51) := by decide +kernel
theorem dX11_count_52 : decode cX11_count 52 = .ok (.aload_n 0, 1) := by decide +kernel
theorem dX11_count_53 : decode cX11_count 53 = .ok (.getfield 16, 3) := by decide +kernel
theorem dX11_count_56 : decode cX11_count 56 = .ok (.getfield 358, 3) := by decide +kernel
theorem dX11_count_59 : decode cX11_count 59 = .ok (.ireturn, 1) := by decide +kernel
theorem dX11_count_60 : decode cX11_count 60 = .ok (.aload_n 0, 1) := by decide +kernel
theorem dX11_count_61 : decode cX11_count 61 = .ok (.getfield 16, 3) := by decide +kernel
theorem dX11_count_64 : decode cX11_count 64 = .ok (.getfield 361, 3) := by decide +kernel
theorem dX11_count_67 : decode cX11_count 67 = .ok (.ireturn, 1) := by decide +kernel
theorem dX11_count_68 : decode cX11_count 68 = .ok (.aload_n 0, 1) := by decide +kernel
theorem dX11_count_69 : decode cX11_count 69 = .ok (.getfield 16, 3) := by decide +kernel
theorem dX11_count_72 : decode cX11_count 72 = .ok (.getfield 154, 3) := by decide +kernel
theorem dX11_count_75 : decode cX11_count 75 = .ok (.ireturn, 1) := by decide +kernel
theorem dX11_count_76 : decode cX11_count 76 = .ok (.aload_n 0, 1) := by decide +kernel
theorem dX11_count_77 : decode cX11_count 77 = .ok (.getfield 16, 3) := by decide +kernel
theorem dX11_count_80 : decode cX11_count 80 = .ok (.getfield 364, 3) := by decide +kernel
theorem dX11_count_83 : decode cX11_count 83 = .ok (.ifCond .ge 8, 3) := by decide +kernel
theorem dX11_count_86 : decode cX11_count 86 = .ok (.bipush (-2), 2) := by decide +kernel
theorem dX11_count_88 : decode cX11_count 88 = .ok (.goto 10, 3) := by decide +kernel
theorem dX11_count_98 : decode cX11_count 98 = .ok (.ireturn, 1) := by decide +kernel
theorem dX11_count_99 : decode cX11_count 99 = .ok (.aload_n 0, 1) := by decide +kernel
theorem dX11_count_100 : decode cX11_count 100 = .ok (.getfield 16, 3) := by decide +kernel
theorem dX11_count_103 : decode cX11_count 103 = .ok (.getfield 326, 3) := by decide +kernel
theorem dX11_count_106 : decode cX11_count 106 = .ok (.ireturn, 1) := by decide +kernel
theorem dX11_count_107 : decode cX11_count 107 = .ok (.aload_n 0, 1) := by decide +kernel
theorem dX11_count_108 : decode cX11_count 108 = .ok (.getfield 41, 3) := by decide +kernel
theorem dX11_count_111 : decode cX11_count 111 = .ok (.getfield 157, 3) := by decide +kernel
theorem dX11_count_114 : decode cX11_count 114 = .ok (.ifCond .eq 13, 3) := by decide +kernel
theorem dX11_count_127 : decode cX11_count 127 = .ok (.bipush (-2), 2) := by decide +kernel
theorem dX11_count_129 : decode cX11_count 129 = .ok (.ireturn, 1) := by decide +kernel
theorem dX11_count_130 : decode cX11_count 130 = .ok (.aload_n 0, 1) := by decide +kernel
theorem dX11_count_131 : decode cX11_count 131 = .ok (.getfield 87, 3) := by decide +kernel
theorem dX11_count_134 : decode cX11_count 134 = .ok (.getfield 333, 3) := by decide +kernel
theorem dX11_count_137 : decode cX11_count 137 = .ok (.ireturn, 1) := by decide +kernel
theorem dX11_count_138 : decode cX11_count 138 = .ok (.aload_n 0, 1) := by decide +kernel
theorem dX11_count_139 : decode cX11_count 139 = .ok (.getfield 104, 3) := by decide +kernel
theorem dX11_count_142 : decode cX11_count 142 = .ok (.ireturn, 1) := by decide +kernel
theorem dX11_count_143 : decode cX11_count 143 = .ok (.aload_n 0, 1) := by decide +kernel
theorem dX11_count_144 : decode cX11_count 144 = .ok (.invokevirtual 367, 3) := by decide +kernel
theorem dX11_count_147 : decode cX11_count 147 = .ok (.ireturn, 1) := by decide +kernel
theorem dX11_count_148 : decode cX11_count 148 = .ok (.iload_n 1, 1) := by decide +kernel
theorem dX11_count_149 : decode cX11_count 149 = .ok (.bipush 10, 2) := by decide +kernel
theorem dX11_count_151 : decode cX11_count 151 = .ok (.if_icmp .lt 45, 3) := by decide +kernel
theorem dX11_count_154 : decode cX11_count 154 = .ok (.aload_n 0, 1) := by decide +kernel
theorem dX11_count_155 : decode cX11_count 155 = .ok (.iload_n 1, 1) := by decide +kernel
theorem dX11_count_156 : decode cX11_count 156 = .ok (.bipush 10, 2) := by decide +kernel
theorem dX11_count_158 : decode cX11_count 158 = .ok (.isub, 1) := by decide +kernel
theorem dX11_count_159 : decode cX11_count 159 = .ok (.invokevirtual 340, 3) := by decide +kernel
theorem dX11_count_162 : decode cX11_count 162 = .ok (.ifCond .eq 34, 3) := by decide +kernel
theorem dX11_count_196 : decode cX11_count 196 = .ok (.iconst (-1), 1) := by decide +kernel
theorem dX11_count_197 : decode cX11_count 197 = .ok (.ireturn, 1) := by decide +kernel
theorem dX11_differs_0 : decode cX11_differs 0 = .ok (.aload_n 0, 1) := by decide +kernel
theorem dX11_differs_1 : decode cX11_differs 1 = .ok (.iload_n 1, 1) := by decide +kernel
theorem dX11_differs_2 : decode cX11_differs 2 = .ok (.invokevirtual 273, 3) := by decide +kernel
theorem dX11_differs_5 : decode cX11_differs 5 = .ok (.istore_n 2, 1) := by decide +kernel
theorem dX11_differs_6 : decode cX11_differs 6 = .ok (.iload_n 2, 1) := by decide +kernel
theorem dX11_differs_7 : decode cX11_differs 7 = .ok (.ifCond .eq 5, 3) := by decide +kernel
theorem dX11_differs_10 : decode cX11_differs 10 = .ok (.iload_n 2, 1) := by decide +kernel
theorem dX11_differs_11 : decode cX11_differs 11 = .ok (.ireturn, 1) := by decide +kernel
theorem dX11_gain_0 : decode cX11_gain 0 = .ok (.aload_n 0, 1) := by decide +kernel
theorem dX11_gain_1 : decode cX11_gain 1 = .ok (.iload_n 1, 1) := by decide +kernel
theorem dX11_gain_2 : decode cX11_gain 2 = .ok (.invokevirtual 222, 3) := by decide +kernel
theorem dX11_gain_5 : decode cX11_gain 5 = .ok (.ifCond .eq 11, 3) := by decide +kernel
theorem dX11_gain_8 : decode cX11_gain 8 = .ok (.aload_n 0, 1) := by decide +kernel
theorem dX11_gain_9 : decode cX11_gain 9 = .ok (.iload_n 3, 1) := by decide +kernel
theorem dX11_gain_10 : decode cX11_gain 10 = .ok (.invokevirtual 319, 3) := by decide +kernel
theorem dX11_gain_13 : decode cX11_gain 13 = .ok (.ifCond .ne 7, 3) := by decide +kernel
theorem dX11_gain_16 : decode cX11_gain 16 = .ok (.sipush (-1000), 3) := by decide +kernel
theorem dX11_gain_19 : decode cX11_gain 19 = .ok (.ireturn, 1) := by decide +kernel
theorem dX11_gap_0 : decode cX11_gap 0 = .ok (.aload_n 0, 1) := by decide +kernel
theorem dX11_gap_1 : decode cX11_gap 1 = .ok (.getfield 94, 3) := by decide +kernel
theorem dX11_gap_4 : decode cX11_gap 4 = .ok (.invokevirtual 355, 3) := by decide +kernel
theorem dX11_gap_7 : decode cX11_gap 7 = .ok (.ireturn, 1) := by decide +kernel
theorem dX11_had_0 : decode cX11_had 0 = .ok (.aload_n 0, 1) := by decide +kernel
theorem dX11_had_1 : decode cX11_had 1 = .ok (.iload_n 1, 1) := by decide +kernel
theorem dX11_had_2 : decode cX11_had 2 = .ok (.iload 4, 2) := by decide +kernel
theorem dX11_had_4 : decode cX11_had 4 = .ok (.invokevirtual 231, 3) := by decide +kernel
theorem dX11_had_7 : decode cX11_had 7 = .ok (.ifCond .eq 24, 3) := by decide +kernel
theorem dX11_had_31 : decode cX11_had 31 = .ok (.iconst (-1), 1) := by decide +kernel
theorem dX11_had_32 : decode cX11_had 32 = .ok (.ireturn, 1) := by decide +kernel
theorem dX11_hand_0 : decode cX11_hand 0 = .ok (.aload_n 0, 1) := by decide +kernel
theorem dX11_hand_1 : decode cX11_hand 1 = .ok (.getfield 41, 3) := by decide +kernel
theorem dX11_hand_4 : decode cX11_hand 4 = .ok (.getfield 157, 3) := by decide +kernel
theorem dX11_hand_7 : decode cX11_hand 7 = .ok (.ifCond .eq 11, 3) := by decide +kernel
theorem dX11_hand_18 : decode cX11_hand 18 = .ok (.iconst (-1), 1) := by decide +kernel
theorem dX11_hand_19 : decode cX11_hand 19 = .ok (.ireturn, 1) := by decide +kernel
theorem dX11_hold_0 : decode cX11_hold 0 = .ok (.iload_n 1, 1) := by decide +kernel
theorem dX11_hold_1 : decode cX11_hold 1 = .ok (.ifCond .lt 18, 3) := by decide +kernel
theorem dX11_hold_4 : decode cX11_hold 4 = .ok (.iload_n 1, 1) := by decide +kernel
theorem dX11_hold_5 : decode cX11_hold 5 = .ok (.iconst 2, 1) := by decide +kernel
theorem dX11_hold_6 : decode cX11_hold 6 = .ok (.if_icmp .ge 13, 3) := by decide +kernel
theorem dX11_hold_9 : decode cX11_hold 9 = .ok (.aload_n 0, 1) := by decide +kernel
theorem dX11_hold_10 : decode cX11_hold 10 = .ok (.getfield 41, 3) := by decide +kernel
theorem dX11_hold_13 : decode cX11_hold 13 = .ok (.getfield 157, 3) := by decide +kernel
theorem dX11_hold_16 : decode cX11_hold 16 = .ok (.ifCond .ne 5, 3) := by decide +kernel
theorem dX11_hold_19 : decode cX11_hold 19 = .ok (.iconst 0, 1) := by decide +kernel
theorem dX11_hold_20 : decode cX11_hold 20 = .ok (.ireturn, 1) := by decide +kernel
theorem dX11_isCustom_0 : decode cX11_isCustom 0 = .ok (.iload_n 1, 1) := by decide +kernel
theorem dX11_isCustom_1 : decode cX11_isCustom 1 = .ok (.ifCond .lt 18, 3) := by decide +kernel
theorem dX11_isCustom_4 : decode cX11_isCustom 4 = .ok (.iload_n 1, 1) := by decide +kernel
theorem dX11_isCustom_5 : decode cX11_isCustom 5 = .ok (.aload_n 0, 1) := by decide +kernel
theorem dX11_isCustom_6 : decode cX11_isCustom 6 = .ok (.getfield 16, 3) := by decide +kernel
theorem dX11_isCustom_9 : decode cX11_isCustom 9 = .ok (.getfield 326, 3) := by decide +kernel
theorem dX11_isCustom_12 : decode cX11_isCustom 12 = .ok (.if_icmp .ge 7, 3) := by decide +kernel
theorem dX11_isCustom_19 : decode cX11_isCustom 19 = .ok (.iconst 0, 1) := by decide +kernel
theorem dX11_isCustom_20 : decode cX11_isCustom 20 = .ok (.ireturn, 1) := by decide +kernel
theorem dX11_isInHand_0 : decode cX11_isInHand 0 = .ok (.aload_n 0, 1) := by decide +kernel
theorem dX11_isInHand_1 : decode cX11_isInHand 1 = .ok (.getfield 41, 3) := by decide +kernel
theorem dX11_isInHand_4 : decode cX11_isInHand 4 = .ok (.getfield 177, 3) := by decide +kernel
theorem dX11_isInHand_7 : decode cX11_isInHand 7 = .ok (.ifCond .lt 37, 3) := by decide +kernel
theorem dX11_isInHand_44 : decode cX11_isInHand 44 = .ok (.iconst 0, 1) := by decide +kernel
theorem dX11_isInHand_45 : decode cX11_isInHand 45 = .ok (.ireturn, 1) := by decide +kernel
theorem dX11_kept_0 : decode cX11_kept 0 = .ok (.iload_n 1, 1) := by decide +kernel
theorem dX11_kept_1 : decode cX11_kept 1 = .ok (.ifCond .lt 14, 3) := by decide +kernel
theorem dX11_kept_4 : decode cX11_kept 4 = .ok (.iload_n 1, 1) := by decide +kernel
theorem dX11_kept_5 : decode cX11_kept 5 = .ok (.aload_n 0, 1) := by decide +kernel
theorem dX11_kept_6 : decode cX11_kept 6 = .ok (.getfield 87, 3) := by decide +kernel
theorem dX11_kept_9 : decode cX11_kept 9 = .ok (.getfield 333, 3) := by decide +kernel
theorem dX11_kept_12 : decode cX11_kept 12 = .ok (.if_icmp .le 5, 3) := by decide +kernel
theorem dX11_kept_15 : decode cX11_kept 15 = .ok (.iconst (-1), 1) := by decide +kernel
theorem dX11_kept_16 : decode cX11_kept 16 = .ok (.ireturn, 1) := by decide +kernel
theorem dX11_kept_17 : decode cX11_kept 17 = .ok (.iconst 0, 1) := by decide +kernel
theorem dX11_kept_18 : decode cX11_kept 18 = .ok (.istore_n 2, 1) := by decide +kernel
theorem dX11_kept_19 : decode cX11_kept 19 = .ok (.iconst 0, 1) := by decide +kernel
theorem dX11_kept_20 : decode cX11_kept 20 = .ok (.istore_n 3, 1) := by decide +kernel
theorem dX11_kept_21 : decode cX11_kept 21 = .ok (.iload_n 3, 1) := by decide +kernel
theorem dX11_kept_22 : decode cX11_kept 22 = .ok (.aload_n 0, 1) := by decide +kernel
theorem dX11_kept_23 : decode cX11_kept 23 = .ok (.getfield 16, 3) := by decide +kernel
theorem dX11_kept_26 : decode cX11_kept 26 = .ok (.getfield 326, 3) := by decide +kernel
theorem dX11_kept_29 : decode cX11_kept 29 = .ok (.if_icmp .ge 27, 3) := by decide +kernel
theorem dX11_kept_56 : decode cX11_kept 56 = .ok (.iload_n 2, 1) := by decide +kernel
theorem dX11_kept_57 : decode cX11_kept 57 = .ok (.ireturn, 1) := by decide +kernel
theorem dX11_knows_0 : decode cX11_knows 0 = .ok (.aload_n 0, 1) := by decide +kernel
theorem dX11_knows_1 : decode cX11_knows 1 = .ok (.iload_n 1, 1) := by decide +kernel
theorem dX11_knows_2 : decode cX11_knows 2 = .ok (.iload 4, 2) := by decide +kernel
theorem dX11_knows_4 : decode cX11_knows 4 = .ok (.invokevirtual 231, 3) := by decide +kernel
theorem dX11_knows_7 : decode cX11_knows 7 = .ok (.ifCond .eq 24, 3) := by decide +kernel
theorem dX11_knows_31 : decode cX11_knows 31 = .ok (.iconst (-1), 1) := by decide +kernel
theorem dX11_knows_32 : decode cX11_knows 32 = .ok (.ireturn, 1) := by decide +kernel
theorem dX11_lead_0 : decode cX11_lead 0 = .ok (.aload_n 0, 1) := by decide +kernel
theorem dX11_lead_1 : decode cX11_lead 1 = .ok (.getfield 41, 3) := by decide +kernel
theorem dX11_lead_4 : decode cX11_lead 4 = .ok (.getfield 157, 3) := by decide +kernel
theorem dX11_lead_7 : decode cX11_lead 7 = .ok (.ifCond .eq 21, 3) := by decide +kernel
theorem dX11_lead_28 : decode cX11_lead 28 = .ok (.iconst 0, 1) := by decide +kernel
theorem dX11_lead_29 : decode cX11_lead 29 = .ok (.ireturn, 1) := by decide +kernel
theorem dX11_lies_0 : decode cX11_lies 0 = .ok (.aload_n 0, 1) := by decide +kernel
theorem dX11_lies_1 : decode cX11_lies 1 = .ok (.getfield 41, 3) := by decide +kernel
theorem dX11_lies_4 : decode cX11_lies 4 = .ok (.getfield 177, 3) := by decide +kernel
theorem dX11_lies_7 : decode cX11_lies 7 = .ok (.ifCond .lt 11, 3) := by decide +kernel
theorem dX11_lies_18 : decode cX11_lies 18 = .ok (.iconst (-1), 1) := by decide +kernel
theorem dX11_lies_19 : decode cX11_lies 19 = .ok (.goto 11, 3) := by decide +kernel
theorem dX11_lies_30 : decode cX11_lies 30 = .ok (.ireturn, 1) := by decide +kernel
theorem dX11_line_0 : decode cX11_line 0 = .ok (.iload_n 1, 1) := by decide +kernel
theorem dX11_line_1 : decode cX11_line 1 = .ok (.ifCond .lt 32, 3) := by decide +kernel
theorem dX11_line_4 : decode cX11_line 4 = .ok (.aload_n 0, 1) := by decide +kernel
theorem dX11_line_5 : decode cX11_line 5 = .ok (.getfield 41, 3) := by decide +kernel
theorem dX11_line_8 : decode cX11_line 8 = .ok (.getfield 157, 3) := by decide +kernel
theorem dX11_line_11 : decode cX11_line 11 = .ok (.ifCond .eq 22, 3) := by decide +kernel
theorem dX11_line_33 : decode cX11_line 33 = .ok (.iconst (-1), 1) := by decide +kernel
theorem dX11_line_34 : decode cX11_line 34 = .ok (.ireturn, 1) := by decide +kernel
theorem dX11_loss_0 : decode cX11_loss 0 = .ok (.aload_n 0, 1) := by decide +kernel
theorem dX11_loss_1 : decode cX11_loss 1 = .ok (.iload_n 1, 1) := by decide +kernel
theorem dX11_loss_2 : decode cX11_loss 2 = .ok (.invokevirtual 273, 3) := by decide +kernel
theorem dX11_loss_5 : decode cX11_loss 5 = .ok (.istore_n 2, 1) := by decide +kernel
theorem dX11_loss_6 : decode cX11_loss 6 = .ok (.iload_n 2, 1) := by decide +kernel
theorem dX11_loss_7 : decode cX11_loss 7 = .ok (.ifCond .eq 5, 3) := by decide +kernel
theorem dX11_loss_10 : decode cX11_loss 10 = .ok (.iload_n 2, 1) := by decide +kernel
theorem dX11_loss_11 : decode cX11_loss 11 = .ok (.ireturn, 1) := by decide +kernel
theorem dX11_may_0 : decode cX11_may 0 = .ok (.aload_n 0, 1) := by decide +kernel
theorem dX11_may_1 : decode cX11_may 1 = .ok (.getfield 41, 3) := by decide +kernel
theorem dX11_may_4 : decode cX11_may 4 = .ok (.invokevirtual 180, 3) := by decide +kernel
theorem dX11_may_7 : decode cX11_may 7 = .ok (.ireturn, 1) := by decide +kernel
theorem dX11_mean_0 : decode cX11_mean 0 = .ok (.aload_n 0, 1) := by decide +kernel
theorem dX11_mean_1 : decode cX11_mean 1 = .ok (.iload_n 2, 1) := by decide +kernel
theorem dX11_mean_2 : decode cX11_mean 2 = .ok (.invokevirtual 273, 3) := by decide +kernel
theorem dX11_mean_5 : decode cX11_mean 5 = .ok (.istore_n 3, 1) := by decide +kernel
theorem dX11_mean_6 : decode cX11_mean 6 = .ok (.iload_n 3, 1) := by decide +kernel
theorem dX11_mean_7 : decode cX11_mean 7 = .ok (.ifCond .eq 6, 3) := by decide +kernel
theorem dX11_mean_10 : decode cX11_mean 10 = .ok (.iload_n 3, 1) := by decide +kernel
theorem dX11_mean_11 : decode cX11_mean 11 = .ok (.i2l, 1) := by decide +kernel
theorem dX11_mean_12 : decode cX11_mean 12 = .ok (.lreturn, 1) := by decide +kernel
theorem dX11_open_0 : decode cX11_open 0 = .ok (.aload_n 0, 1) := by decide +kernel
theorem dX11_open_1 : decode cX11_open 1 = .ok (.getfield 41, 3) := by decide +kernel
theorem dX11_open_4 : decode cX11_open 4 = .ok (.getfield 157, 3) := by decide +kernel
theorem dX11_open_7 : decode cX11_open 7 = .ok (.ifCond .eq 17, 3) := by decide +kernel
theorem dX11_open_24 : decode cX11_open 24 = .ok (.bipush (-2), 2) := by decide +kernel
theorem dX11_open_26 : decode cX11_open 26 = .ok (.ireturn, 1) := by decide +kernel
theorem dX11_openings_0 : decode cX11_openings 0 = .ok (.aload_n 0, 1) := by decide +kernel
theorem dX11_openings_1 : decode cX11_openings 1 = .ok (.iload_n 1, 1) := by decide +kernel
theorem dX11_openings_2 : decode cX11_openings 2 = .ok (.invokevirtual 340, 3) := by decide +kernel
theorem dX11_openings_5 : decode cX11_openings 5 = .ok (.ifCond .eq 12, 3) := by decide +kernel
theorem dX11_openings_17 : decode cX11_openings 17 = .ok (.iconst (-1), 1) := by decide +kernel
theorem dX11_openings_18 : decode cX11_openings 18 = .ok (.ireturn, 1) := by decide +kernel
theorem dX11_place_0 : decode cX11_place 0 = .ok (.aload_n 0, 1) := by decide +kernel
theorem dX11_place_1 : decode cX11_place 1 = .ok (.getfield 32, 3) := by decide +kernel
theorem dX11_place_4 : decode cX11_place 4 = .ok (.getfield 130, 3) := by decide +kernel
theorem dX11_place_7 : decode cX11_place 7 = .ok (.ireturn, 1) := by decide +kernel
theorem dX11_play_0 : decode cX11_play 0 = .ok (.aload_n 0, 1) := by decide +kernel
theorem dX11_play_1 : decode cX11_play 1 = .ok (.iload_n 1, 1) := by decide +kernel
theorem dX11_play_2 : decode cX11_play 2 = .ok (.invokevirtual 183, 3) := by decide +kernel
theorem dX11_play_5 : decode cX11_play 5 = .ok (.ifCond .ne 5, 3) := by decide +kernel
theorem dX11_play_8 : decode cX11_play 8 = .ok (.iconst (-1), 1) := by decide +kernel
theorem dX11_play_9 : decode cX11_play 9 = .ok (.ireturn, 1) := by decide +kernel
theorem dX11_quarrel_0 : decode cX11_quarrel 0 = .ok (.aload_n 0, 1) := by decide +kernel
theorem dX11_quarrel_1 : decode cX11_quarrel 1 = .ok (.iload_n 1, 1) := by decide +kernel
theorem dX11_quarrel_2 : decode cX11_quarrel 2 = .ok (.invokevirtual 340, 3) := by decide +kernel
theorem dX11_quarrel_5 : decode cX11_quarrel 5 = .ok (.ifCond .eq 16, 3) := by decide +kernel
theorem dX11_quarrel_21 : decode cX11_quarrel 21 = .ok (.iconst (-1), 1) := by decide +kernel
theorem dX11_quarrel_22 : decode cX11_quarrel 22 = .ok (.ireturn, 1) := by decide +kernel
theorem dX11_refusal_0 : decode cX11_refusal 0 = .ok (.aload_n 0, 1) := by decide +kernel
theorem dX11_refusal_1 : decode cX11_refusal 1 = .ok (.iload_n 1, 1) := by decide +kernel
theorem dX11_refusal_2 : decode cX11_refusal 2 = .ok (.invokevirtual 222, 3) := by decide +kernel
theorem dX11_refusal_5 : decode cX11_refusal 5 = .ok (.ifCond .eq 13, 3) := by decide +kernel
theorem dX11_refusal_8 : decode cX11_refusal 8 = .ok (.aload_n 0, 1) := by decide +kernel
theorem dX11_refusal_9 : decode cX11_refusal 9 = .ok (.getfield 41, 3) := by decide +kernel
theorem dX11_refusal_12 : decode cX11_refusal 12 = .ok (.getfield 177, 3) := by decide +kernel
theorem dX11_refusal_15 : decode cX11_refusal 15 = .ok (.ifCond .ge 5, 3) := by decide +kernel
theorem dX11_refusal_18 : decode cX11_refusal 18 = .ok (.iconst (-1), 1) := by decide +kernel
theorem dX11_refusal_19 : decode cX11_refusal 19 = .ok (.ireturn, 1) := by decide +kernel
theorem dX11_restore_0 : decode cX11_restore 0 = .ok (.iload_n 1, 1) := by decide +kernel
theorem dX11_restore_1 : decode cX11_restore 1 = .ok (.ifCond .lt 20, 3) := by decide +kernel
theorem dX11_restore_4 : decode cX11_restore 4 = .ok (.iload_n 1, 1) := by decide +kernel
theorem dX11_restore_5 : decode cX11_restore 5 = .ok (.iconst 2, 1) := by decide +kernel
theorem dX11_restore_6 : decode cX11_restore 6 = .ok (.if_icmp .ge 15, 3) := by decide +kernel
theorem dX11_restore_9 : decode cX11_restore 9 = .ok (.aload_n 0, 1) := by decide +kernel
theorem dX11_restore_10 : decode cX11_restore 10 = .ok (.getfield 48, 3) := by decide +kernel
theorem dX11_restore_13 : decode cX11_restore 13 = .ok (.iload_n 1, 1) := by decide +kernel
theorem dX11_restore_14 : decode cX11_restore 14 = .ok (.aaload, 1) := by decide +kernel
theorem dX11_restore_15 : decode cX11_restore 15 = .ok (.getfield 157, 3) := by decide +kernel
theorem dX11_restore_18 : decode cX11_restore 18 = .ok (.ifCond .ne 5, 3) := by decide +kernel
theorem dX11_restore_21 : decode cX11_restore 21 = .ok (.iconst 0, 1) := by decide +kernel
theorem dX11_restore_22 : decode cX11_restore 22 = .ok (.ireturn, 1) := by decide +kernel
theorem dX11_revoke_0 : decode cX11_revoke 0 = .ok (.aload_n 0, 1) := by decide +kernel
theorem dX11_revoke_1 : decode cX11_revoke 1 = .ok (.iload_n 1, 1) := by decide +kernel
theorem dX11_revoke_2 : decode cX11_revoke 2 = .ok (.invokevirtual 183, 3) := by decide +kernel
theorem dX11_revoke_5 : decode cX11_revoke 5 = .ok (.ifCond .ne 5, 3) := by decide +kernel
theorem dX11_revoke_8 : decode cX11_revoke 8 = .ok (.iconst (-1), 1) := by decide +kernel
theorem dX11_revoke_9 : decode cX11_revoke 9 = .ok (.ireturn, 1) := by decide +kernel
theorem dX11_revokes_0 : decode cX11_revokes 0 = .ok (.iload_n 1, 1) := by decide +kernel
theorem dX11_revokes_1 : decode cX11_revokes 1 = .ok (.ifCond .lt 8, 3) := by decide +kernel
theorem dX11_revokes_4 : decode cX11_revokes 4 = .ok (.iload_n 1, 1) := by decide +kernel
theorem dX11_revokes_5 : decode cX11_revokes 5 = .ok (.iconst 2, 1) := by decide +kernel
theorem dX11_revokes_6 : decode cX11_revokes 6 = .ok (.if_icmp .le 5, 3) := by decide +kernel
theorem dX11_revokes_9 : decode cX11_revokes 9 = .ok (.iconst (-1), 1) := by decide +kernel
theorem dX11_revokes_10 : decode cX11_revokes 10 = .ok (.ireturn, 1) := by decide +kernel
theorem dX11_revokes_11 : decode cX11_revokes 11 = .ok (.iconst 0, 1) := by decide +kernel
theorem dX11_revokes_12 : decode cX11_revokes 12 = .ok (.istore_n 2, 1) := by decide +kernel
theorem dX11_revokes_13 : decode cX11_revokes 13 = .ok (.iconst 0, 1) := by decide +kernel
theorem dX11_revokes_14 : decode cX11_revokes 14 = .ok (.istore_n 3, 1) := by decide +kernel
theorem dX11_revokes_15 : decode cX11_revokes 15 = .ok (.bipush 16, 2) := by decide +kernel
theorem dX11_revokes_17 : decode cX11_revokes 17 = .ok (.istore 4, 2) := by decide +kernel
theorem dX11_revokes_19 : decode cX11_revokes 19 = .ok (.iconst 0, 1) := by decide +kernel
theorem dX11_revokes_20 : decode cX11_revokes 20 = .ok (.istore 5, 2) := by decide +kernel
theorem dX11_revokes_22 : decode cX11_revokes 22 = .ok (.iload 5, 2) := by decide +kernel
theorem dX11_revokes_24 : decode cX11_revokes 24 = .ok (.aload_n 0, 1) := by decide +kernel
theorem dX11_revokes_25 : decode cX11_revokes 25 = .ok (.getfield 41, 3) := by decide +kernel
theorem dX11_revokes_28 : decode cX11_revokes 28 = .ok (.getfield 161, 3) := by decide +kernel
theorem dX11_revokes_31 : decode cX11_revokes 31 = .ok (.if_icmp .ge 52, 3) := by decide +kernel
theorem dX11_revokes_83 : decode cX11_revokes 83 = .ok (.iload_n 1, 1) := by decide +kernel
theorem dX11_revokes_84 : decode cX11_revokes 84 = .ok (.ifCond .ne 5, 3) := by decide +kernel
theorem dX11_revokes_87 : decode cX11_revokes 87 = .ok (.iload_n 2, 1) := by decide +kernel
theorem dX11_revokes_88 : decode cX11_revokes 88 = .ok (.ireturn, 1) := by decide +kernel
theorem dX11_revokes_89 : decode cX11_revokes 89 = .ok (.iload_n 1, 1) := by decide +kernel
theorem dX11_revokes_90 : decode cX11_revokes 90 = .ok (.iconst 1, 1) := by decide +kernel
theorem dX11_revokes_91 : decode cX11_revokes 91 = .ok (.if_icmp .ne 5, 3) := by decide +kernel
theorem dX11_revokes_94 : decode cX11_revokes 94 = .ok (.iload_n 3, 1) := by decide +kernel
theorem dX11_revokes_95 : decode cX11_revokes 95 = .ok (.ireturn, 1) := by decide +kernel
theorem dX11_revokes_96 : decode cX11_revokes 96 = .ok (.iload_n 3, 1) := by decide +kernel
theorem dX11_revokes_97 : decode cX11_revokes 97 = .ok (.ifCond .ne 8, 3) := by decide +kernel
theorem dX11_revokes_100 : decode cX11_revokes 100 = .ok (.bipush (-2), 2) := by decide +kernel
theorem dX11_revokes_102 : decode cX11_revokes 102 = .ok (.goto 5, 3) := by decide +kernel
theorem dX11_revokes_107 : decode cX11_revokes 107 = .ok (.ireturn, 1) := by decide +kernel
theorem dX11_safe_0 : decode cX11_safe 0 = .ok (.iload_n 2, 1) := by decide +kernel
theorem dX11_safe_1 : decode cX11_safe 1 = .ok (.ifCond .lt 8, 3) := by decide +kernel
theorem dX11_safe_4 : decode cX11_safe 4 = .ok (.iload_n 2, 1) := by decide +kernel
theorem dX11_safe_5 : decode cX11_safe 5 = .ok (.iconst 1, 1) := by decide +kernel
theorem dX11_safe_6 : decode cX11_safe 6 = .ok (.if_icmp .le 5, 3) := by decide +kernel
theorem dX11_safe_9 : decode cX11_safe 9 = .ok (.iconst (-1), 1) := by decide +kernel
theorem dX11_safe_10 : decode cX11_safe 10 = .ok (.ireturn, 1) := by decide +kernel
theorem dX11_safe_11 : decode cX11_safe 11 = .ok (.aload_n 0, 1) := by decide +kernel
theorem dX11_safe_12 : decode cX11_safe 12 = .ok (.iload_n 1, 1) := by decide +kernel
theorem dX11_safe_13 : decode cX11_safe 13 = .ok (.invokevirtual 273, 3) := by decide +kernel
theorem dX11_safe_16 : decode cX11_safe 16 = .ok (.istore_n 3, 1) := by decide +kernel
theorem dX11_safe_17 : decode cX11_safe 17 = .ok (.iload_n 3, 1) := by decide +kernel
theorem dX11_safe_18 : decode cX11_safe 18 = .ok (.ifCond .eq 5, 3) := by decide +kernel
theorem dX11_safe_21 : decode cX11_safe 21 = .ok (.iload_n 3, 1) := by decide +kernel
theorem dX11_safe_22 : decode cX11_safe 22 = .ok (.ireturn, 1) := by decide +kernel
theorem dX11_says_0 : decode cX11_says 0 = .ok (.iload_n 1, 1) := by decide +kernel
theorem dX11_says_1 : decode cX11_says 1 = .ok (.ifCond .lt 31, 3) := by decide +kernel
theorem dX11_says_4 : decode cX11_says 4 = .ok (.iload_n 1, 1) := by decide +kernel
theorem dX11_says_5 : decode cX11_says 5 = .ok (.aload_n 0, 1) := by decide +kernel
theorem dX11_says_6 : decode cX11_says 6 = .ok (.getfield 41, 3) := by decide +kernel
theorem dX11_says_9 : decode cX11_says 9 = .ok (.getfield 161, 3) := by decide +kernel
theorem dX11_says_12 : decode cX11_says 12 = .ok (.if_icmp .ge 20, 3) := by decide +kernel
theorem dX11_says_32 : decode cX11_says 32 = .ok (.iconst (-1), 1) := by decide +kernel
theorem dX11_says_33 : decode cX11_says 33 = .ok (.ireturn, 1) := by decide +kernel
theorem dX11_slotsInUse_0 : decode cX11_slotsInUse 0 = .ok (.iconst 0, 1) := by decide +kernel
theorem dX11_slotsInUse_1 : decode cX11_slotsInUse 1 = .ok (.istore_n 1, 1) := by decide +kernel
theorem dX11_slotsInUse_2 : decode cX11_slotsInUse 2 = .ok (.iconst 0, 1) := by decide +kernel
theorem dX11_slotsInUse_3 : decode cX11_slotsInUse 3 = .ok (.istore_n 2, 1) := by decide +kernel
theorem dX11_slotsInUse_4 : decode cX11_slotsInUse 4 = .ok (.iload_n 2, 1) := by decide +kernel
theorem dX11_slotsInUse_5 : decode cX11_slotsInUse 5 = .ok (.iconst 2, 1) := by decide +kernel
theorem dX11_slotsInUse_6 : decode cX11_slotsInUse 6 = .ok (.if_icmp .ge 29, 3) := by decide +kernel
theorem dX11_slotsInUse_9 : decode cX11_slotsInUse 9 = .ok (.iload_n 1, 1) := by decide +kernel
theorem dX11_slotsInUse_10 : decode cX11_slotsInUse 10 = .ok (.aload_n 0, 1) := by decide +kernel
theorem dX11_slotsInUse_11 : decode cX11_slotsInUse 11 = .ok (.getfield 48, 3) := by decide +kernel
theorem dX11_slotsInUse_14 : decode cX11_slotsInUse 14 = .ok (.iload_n 2, 1) := by decide +kernel
theorem dX11_slotsInUse_15 : decode cX11_slotsInUse 15 = .ok (.aaload, 1) := by decide +kernel
theorem dX11_slotsInUse_16 : decode cX11_slotsInUse 16 = .ok (.getfield 157, 3) := by decide +kernel
theorem dX11_slotsInUse_19 : decode cX11_slotsInUse 19 = .ok (.ifCond .eq 7, 3) := by decide +kernel
theorem dX11_slotsInUse_26 : decode cX11_slotsInUse 26 = .ok (.iconst 0, 1) := by decide +kernel
theorem dX11_slotsInUse_27 : decode cX11_slotsInUse 27 = .ok (.iadd, 1) := by decide +kernel
theorem dX11_slotsInUse_28 : decode cX11_slotsInUse 28 = .ok (.istore_n 1, 1) := by decide +kernel
theorem dX11_slotsInUse_29 : decode cX11_slotsInUse 29 = .ok (.iinc 2 1, 3) := by decide +kernel
theorem dX11_slotsInUse_32 : decode cX11_slotsInUse 32 = .ok (.goto (-28), 3) := by decide +kernel
theorem dX11_slotsInUse_35 : decode cX11_slotsInUse 35 = .ok (.iload_n 1, 1) := by decide +kernel
theorem dX11_slotsInUse_36 : decode cX11_slotsInUse 36 = .ok (.ireturn, 1) := by decide +kernel
theorem dX11_spread_0 : decode cX11_spread 0 = .ok (.aload_n 0, 1) := by decide +kernel
theorem dX11_spread_1 : decode cX11_spread 1 = .ok (.iload_n 2, 1) := by decide +kernel
theorem dX11_spread_2 : decode cX11_spread 2 = .ok (.invokevirtual 273, 3) := by decide +kernel
theorem dX11_spread_5 : decode cX11_spread 5 = .ok (.istore 4, 2) := by decide +kernel
theorem dX11_spread_7 : decode cX11_spread 7 = .ok (.iload 4, 2) := by decide +kernel
theorem dX11_spread_9 : decode cX11_spread 9 = .ok (.ifCond .eq 6, 3) := by decide +kernel
theorem dX11_spread_12 : decode cX11_spread 12 = .ok (.iload 4, 2) := by decide +kernel
theorem dX11_spread_14 : decode cX11_spread 14 = .ok (.ireturn, 1) := by decide +kernel
theorem dX11_sure_0 : decode cX11_sure 0 = .ok (.aload_n 0, 1) := by decide +kernel
theorem dX11_sure_1 : decode cX11_sure 1 = .ok (.iload_n 1, 1) := by decide +kernel
theorem dX11_sure_2 : decode cX11_sure 2 = .ok (.iload_n 2, 1) := by decide +kernel
theorem dX11_sure_3 : decode cX11_sure 3 = .ok (.invokevirtual 231, 3) := by decide +kernel
theorem dX11_sure_6 : decode cX11_sure 6 = .ok (.ifCond .ne 5, 3) := by decide +kernel
theorem dX11_sure_9 : decode cX11_sure 9 = .ok (.iconst (-1), 1) := by decide +kernel
theorem dX11_sure_10 : decode cX11_sure 10 = .ok (.ireturn, 1) := by decide +kernel
theorem dX11_told_0 : decode cX11_told 0 = .ok (.aload_n 0, 1) := by decide +kernel
theorem dX11_told_1 : decode cX11_told 1 = .ok (.iload_n 1, 1) := by decide +kernel
theorem dX11_told_2 : decode cX11_told 2 = .ok (.invokevirtual 340, 3) := by decide +kernel
theorem dX11_told_5 : decode cX11_told 5 = .ok (.ifCond .eq 27, 3) := by decide +kernel
theorem dX11_told_32 : decode cX11_told 32 = .ok (.iconst (-1), 1) := by decide +kernel
theorem dX11_told_33 : decode cX11_told 33 = .ok (.ireturn, 1) := by decide +kernel
theorem dX11_tricks_0 : decode cX11_tricks 0 = .ok (.iload_n 1, 1) := by decide +kernel
theorem dX11_tricks_1 : decode cX11_tricks 1 = .ok (.ifCond .lt 8, 3) := by decide +kernel
theorem dX11_tricks_4 : decode cX11_tricks 4 = .ok (.iload_n 1, 1) := by decide +kernel
theorem dX11_tricks_5 : decode cX11_tricks 5 = .ok (.iconst 1, 1) := by decide +kernel
theorem dX11_tricks_6 : decode cX11_tricks 6 = .ok (.if_icmp .le 7, 3) := by decide +kernel
theorem dX11_tricks_9 : decode cX11_tricks 9 = .ok (.iconst (-1), 1) := by decide +kernel
theorem dX11_tricks_10 : decode cX11_tricks 10 = .ok (.goto 11, 3) := by decide +kernel
theorem dX11_tricks_13 : decode cX11_tricks 13 = .ok (.aload_n 0, 1) := by decide +kernel
theorem dX11_tricks_14 : decode cX11_tricks 14 = .ok (.getfield 41, 3) := by decide +kernel
theorem dX11_tricks_17 : decode cX11_tricks 17 = .ok (.iload_n 1, 1) := by decide +kernel
theorem dX11_tricks_18 : decode cX11_tricks 18 = .ok (.invokevirtual 210, 3) := by decide +kernel
theorem dX11_tricks_21 : decode cX11_tricks 21 = .ok (.ireturn, 1) := by decide +kernel
theorem dX11_turn_0 : decode cX11_turn 0 = .ok (.aload_n 0, 1) := by decide +kernel
theorem dX11_turn_1 : decode cX11_turn 1 = .ok (.getfield 41, 3) := by decide +kernel
theorem dX11_turn_4 : decode cX11_turn 4 = .ok (.getfield 177, 3) := by decide +kernel
theorem dX11_turn_7 : decode cX11_turn 7 = .ok (.ireturn, 1) := by decide +kernel
theorem dX11_undo_0 : decode cX11_undo 0 = .ok (.aload_n 0, 1) := by decide +kernel
theorem dX11_undo_1 : decode cX11_undo 1 = .ok (.getfield 41, 3) := by decide +kernel
theorem dX11_undo_4 : decode cX11_undo 4 = .ok (.getfield 161, 3) := by decide +kernel
theorem dX11_undo_7 : decode cX11_undo 7 = .ok (.ifCond .ne 5, 3) := by decide +kernel
theorem dX11_undo_10 : decode cX11_undo 10 = .ok (.iconst (-1), 1) := by decide +kernel
theorem dX11_undo_11 : decode cX11_undo 11 = .ok (.ireturn, 1) := by decide +kernel
theorem dX11_winner_0 : decode cX11_winner 0 = .ok (.iload_n 1, 1) := by decide +kernel
theorem dX11_winner_1 : decode cX11_winner 1 = .ok (.ifCond .lt 16, 3) := by decide +kernel
theorem dX11_winner_4 : decode cX11_winner 4 = .ok (.iload_n 1, 1) := by decide +kernel
theorem dX11_winner_5 : decode cX11_winner 5 = .ok (.aload_n 0, 1) := by decide +kernel
theorem dX11_winner_6 : decode cX11_winner 6 = .ok (.getfield 41, 3) := by decide +kernel
theorem dX11_winner_9 : decode cX11_winner 9 = .ok (.getfield 161, 3) := by decide +kernel
theorem dX11_winner_12 : decode cX11_winner 12 = .ok (.iconst 4, 1) := by decide +kernel
theorem dX11_winner_13 : decode cX11_winner 13 = .ok (.idiv, 1) := by decide +kernel
theorem dX11_winner_14 : decode cX11_winner 14 = .ok (.if_icmp .lt 7, 3) := by decide +kernel
theorem dX11_winner_17 : decode cX11_winner 17 = .ok (.iconst (-1), 1) := by decide +kernel
theorem dX11_winner_18 : decode cX11_winner 18 = .ok (.goto 12, 3) := by decide +kernel
theorem dX11_winner_30 : decode cX11_winner 30 = .ok (.ireturn, 1) := by decide +kernel
theorem dX11_worth_0 : decode cX11_worth 0 = .ok (.aload_n 0, 1) := by decide +kernel
theorem dX11_worth_1 : decode cX11_worth 1 = .ok (.iload_n 1, 1) := by decide +kernel
theorem dX11_worth_2 : decode cX11_worth 2 = .ok (.invokevirtual 273, 3) := by decide +kernel
theorem dX11_worth_5 : decode cX11_worth 5 = .ok (.ifCond .eq 7, 3) := by decide +kernel
theorem dX11_worth_8 : decode cX11_worth 8 = .ok (.ldc2_w 311, 3) := by decide +kernel
theorem dX11_worth_11 : decode cX11_worth 11 = .ok (.lreturn, 1) := by decide +kernel
theorem dX12_after_0 : decode cX12_after 0 = .ok (.aload_n 0, 1) := by decide +kernel
theorem dX12_after_1 : decode cX12_after 1 = .ok (.iload_n 1, 1) := by decide +kernel
theorem dX12_after_2 : decode cX12_after 2 = .ok (.iload_n 3, 1) := by decide +kernel
theorem dX12_after_3 : decode cX12_after 3 = .ok (.invokevirtual 502, 3) := by decide +kernel
theorem dX12_after_6 : decode cX12_after 6 = .ok (.ifCond .eq 25, 3) := by decide +kernel
theorem dX12_after_31 : decode cX12_after 31 = .ok (.iconst (-1), 1) := by decide +kernel
theorem dX12_after_32 : decode cX12_after 32 = .ok (.ireturn, 1) := by decide +kernel
theorem dX12_areCustoms_0 : decode cX12_areCustoms 0 = .ok (.iload_n 1, 1) := by decide +kernel
theorem dX12_areCustoms_1 : decode cX12_areCustoms 1 = .ok (.iconst 0, 1) := by decide +kernel
theorem dX12_areCustoms_2 : decode cX12_areCustoms 2 = .ok (.iconst 1, 1) := by decide +kernel
theorem dX12_areCustoms_3 : decode cX12_areCustoms 3 = .ok (.aload_n 0, 1) := by decide +kernel
theorem dX12_areCustoms_4 : decode cX12_areCustoms 4 = .ok (.getfield 52, 3) := by decide +kernel
theorem dX12_areCustoms_7 : decode cX12_areCustoms 7 = .ok (.aload_n 0, 1) := by decide +kernel
theorem dX12_areCustoms_8 : decode cX12_areCustoms 8 = .ok (.getfield 274, 3) := by decide +kernel
theorem dX12_areCustoms_11 : decode cX12_areCustoms 11 = .ok (.iaload, 1) := by decide +kernel
theorem dX12_areCustoms_12 : decode cX12_areCustoms 12 = .ok (.ishl, 1) := by decide +kernel
theorem dX12_areCustoms_13 : decode cX12_areCustoms 13 = .ok (.iconst 1, 1) := by decide +kernel
theorem dX12_areCustoms_14 : decode cX12_areCustoms 14 = .ok (.isub, 1) := by decide +kernel
theorem dX12_areCustoms_15 : decode cX12_areCustoms 15 = .ok (.invokestatic 310, 3) := by decide +kernel
theorem dX12_areCustoms_18 : decode cX12_areCustoms 18 = .ok (.ireturn, 1) := by decide +kernel
theorem dX12_bestSet_0 : decode cX12_bestSet 0 = .ok (.aload_n 0, 1) := by decide +kernel
theorem dX12_bestSet_1 : decode cX12_bestSet 1 = .ok (.iload_n 2, 1) := by decide +kernel
theorem dX12_bestSet_2 : decode cX12_bestSet 2 = .ok (.invokevirtual 614, 3) := by decide +kernel
theorem dX12_bestSet_5 : decode cX12_bestSet 5 = .ok (.ifCond .eq 12, 3) := by decide +kernel
theorem dX12_bestSet_17 : decode cX12_bestSet 17 = .ok (.sipush (-1000), 3) := by decide +kernel
theorem dX12_bestSet_20 : decode cX12_bestSet 20 = .ok (.ireturn, 1) := by decide +kernel
theorem dX12_book_0 : decode cX12_book 0 = .ok (.aload_n 0, 1) := by decide +kernel
theorem dX12_book_1 : decode cX12_book 1 = .ok (.getfield 292, 3) := by decide +kernel
theorem dX12_book_4 : decode cX12_book 4 = .ok (.ifCond .eq 23, 3) := by decide +kernel
theorem dX12_book_27 : decode cX12_book 27 = .ok (.iconst (-1), 1) := by decide +kernel
theorem dX12_book_28 : decode cX12_book 28 = .ok (.ireturn, 1) := by decide +kernel
theorem dX12_canAsk_0 : decode cX12_canAsk 0 = .ok (.aload_n 0, 1) := by decide +kernel
theorem dX12_canAsk_1 : decode cX12_canAsk 1 = .ok (.getfield 292, 3) := by decide +kernel
theorem dX12_canAsk_4 : decode cX12_canAsk 4 = .ok (.ifCond .eq 22, 3) := by decide +kernel
theorem dX12_canAsk_26 : decode cX12_canAsk 26 = .ok (.iconst 0, 1) := by decide +kernel
theorem dX12_canAsk_27 : decode cX12_canAsk 27 = .ok (.ireturn, 1) := by decide +kernel
theorem dX12_canBe_0 : decode cX12_canBe 0 = .ok (.aload_n 0, 1) := by decide +kernel
theorem dX12_canBe_1 : decode cX12_canBe 1 = .ok (.iload_n 1, 1) := by decide +kernel
theorem dX12_canBe_2 : decode cX12_canBe 2 = .ok (.iload_n 2, 1) := by decide +kernel
theorem dX12_canBe_3 : decode cX12_canBe 3 = .ok (.invokevirtual 502, 3) := by decide +kernel
theorem dX12_canBe_6 : decode cX12_canBe 6 = .ok (.ifCond .eq 16, 3) := by decide +kernel
theorem dX12_canBe_22 : decode cX12_canBe 22 = .ok (.iconst (-1), 1) := by decide +kernel
theorem dX12_canBe_23 : decode cX12_canBe 23 = .ok (.ireturn, 1) := by decide +kernel
theorem dX12_canGain_0 : decode cX12_canGain 0 = .ok (.iload_n 1, 1) := by decide +kernel
theorem dX12_canGain_1 : decode cX12_canGain 1 = .ok (.iconst 1, 1) := by decide +kernel
theorem dX12_canGain_2 : decode cX12_canGain 2 = .ok (.bipush 20, 2) := by decide +kernel
theorem dX12_canGain_4 : decode cX12_canGain 4 = .ok (.invokestatic 310, 3) := by decide +kernel
theorem dX12_canGain_7 : decode cX12_canGain 7 = .ok (.ifCond .eq 16, 3) := by decide +kernel
theorem dX12_canGain_10 : decode cX12_canGain 10 = .ok (.aload_n 0, 1) := by decide +kernel
theorem dX12_canGain_11 : decode cX12_canGain 11 = .ok (.invokevirtual 351, 3) := by decide +kernel
theorem dX12_canGain_14 : decode cX12_canGain 14 = .ok (.bipush 8, 2) := by decide +kernel
theorem dX12_canGain_16 : decode cX12_canGain 16 = .ok (.if_icmp .ne 7, 3) := by decide +kernel
theorem dX12_canGain_23 : decode cX12_canGain 23 = .ok (.iconst 0, 1) := by decide +kernel
theorem dX12_canGain_24 : decode cX12_canGain 24 = .ok (.ireturn, 1) := by decide +kernel
theorem dX12_canMean_0 : decode cX12_canMean 0 = .ok (.aload_n 0, 1) := by decide +kernel
theorem dX12_canMean_1 : decode cX12_canMean 1 = .ok (.invokevirtual 396, 3) := by decide +kernel
theorem dX12_canMean_4 : decode cX12_canMean 4 = .ok (.ifCond .lt 15, 3) := by decide +kernel
theorem dX12_canMean_19 : decode cX12_canMean 19 = .ok (.iconst 0, 1) := by decide +kernel
theorem dX12_canMean_20 : decode cX12_canMean 20 = .ok (.ireturn, 1) := by decide +kernel
theorem dX12_canPlay_0 : decode cX12_canPlay 0 = .ok (.aload_n 0, 1) := by decide +kernel
theorem dX12_canPlay_1 : decode cX12_canPlay 1 = .ok (.invokevirtual 396, 3) := by decide +kernel
theorem dX12_canPlay_4 : decode cX12_canPlay 4 = .ok (.istore_n 2, 1) := by decide +kernel
theorem dX12_canPlay_5 : decode cX12_canPlay 5 = .ok (.iload_n 2, 1) := by decide +kernel
theorem dX12_canPlay_6 : decode cX12_canPlay 6 = .ok (.ifCond .lt 28, 3) := by decide +kernel
theorem dX12_canPlay_34 : decode cX12_canPlay 34 = .ok (.iconst 0, 1) := by decide +kernel
theorem dX12_canPlay_35 : decode cX12_canPlay 35 = .ok (.ireturn, 1) := by decide +kernel
theorem dX12_card_0 : decode cX12_card 0 = .ok (.aload_n 0, 1) := by decide +kernel
theorem dX12_card_1 : decode cX12_card 1 = .ok (.getfield 292, 3) := by decide +kernel
theorem dX12_card_4 : decode cX12_card 4 = .ok (.ifCond .eq 17, 3) := by decide +kernel
theorem dX12_card_21 : decode cX12_card 21 = .ok (.iconst (-1), 1) := by decide +kernel
theorem dX12_card_22 : decode cX12_card 22 = .ok (.ireturn, 1) := by decide +kernel
theorem dX12_cards_0 : decode cX12_cards 0 = .ok (.aload_n 0, 1) := by decide +kernel
theorem dX12_cards_1 : decode cX12_cards 1 = .ok (.getfield 43, 3) := by decide +kernel
theorem dX12_cards_4 : decode cX12_cards 4 = .ok (.aload_n 0, 1) := by decide +kernel
theorem dX12_cards_5 : decode cX12_cards 5 = .ok (.getfield 274, 3) := by decide +kernel
theorem dX12_cards_8 : decode cX12_cards 8 = .ok (.iaload, 1) := by decide +kernel
theorem dX12_cards_9 : decode cX12_cards 9 = .ok (.aload_n 0, 1) := by decide +kernel
theorem dX12_cards_10 : decode cX12_cards 10 = .ok (.getfield 46, 3) := by decide +kernel
theorem dX12_cards_13 : decode cX12_cards 13 = .ok (.aload_n 0, 1) := by decide +kernel
theorem dX12_cards_14 : decode cX12_cards 14 = .ok (.getfield 274, 3) := by decide +kernel
theorem dX12_cards_17 : decode cX12_cards 17 = .ok (.iaload, 1) := by decide +kernel
theorem dX12_cards_18 : decode cX12_cards 18 = .ok (.imul, 1) := by decide +kernel
theorem dX12_cards_19 : decode cX12_cards 19 = .ok (.ireturn, 1) := by decide +kernel
theorem dX12_choice_0 : decode cX12_choice 0 = .ok (.aload_n 0, 1) := by decide +kernel
theorem dX12_choice_1 : decode cX12_choice 1 = .ok (.iload_n 1, 1) := by decide +kernel
theorem dX12_choice_2 : decode cX12_choice 2 = .ok (.invokevirtual 572, 3) := by decide +kernel
theorem dX12_choice_5 : decode cX12_choice 5 = .ok (.ifCond .ne 5, 3) := by decide +kernel
theorem dX12_choice_8 : decode cX12_choice 8 = .ok (.iconst (-1), 1) := by decide +kernel
theorem dX12_choice_9 : decode cX12_choice 9 = .ok (.ireturn, 1) := by decide +kernel
theorem dX12_count_0 : decode cX12_count 0 = .ok (.iload_n 1, 1) := by decide +kernel
theorem dX12_count_1 : decode cX12_count 1 = .ok (.tableswitch 161 0 8 #[51, 61, 71, 76, 94, 104, 121, 126, 131], 51) := by decide +kernel
theorem dX12_count_52 : decode cX12_count 52 = .ok (.aload_n 0, 1) := by decide +kernel
theorem dX12_count_53 : decode cX12_count 53 = .ok (.getfield 43, 3) := by decide +kernel
theorem dX12_count_56 : decode cX12_count 56 = .ok (.aload_n 0, 1) := by decide +kernel
theorem dX12_count_57 : decode cX12_count 57 = .ok (.getfield 274, 3) := by decide +kernel
theorem dX12_count_60 : decode cX12_count 60 = .ok (.iaload, 1) := by decide +kernel
theorem dX12_count_61 : decode cX12_count 61 = .ok (.ireturn, 1) := by decide +kernel
theorem dX12_count_62 : decode cX12_count 62 = .ok (.aload_n 0, 1) := by decide +kernel
theorem dX12_count_63 : decode cX12_count 63 = .ok (.getfield 46, 3) := by decide +kernel
theorem dX12_count_66 : decode cX12_count 66 = .ok (.aload_n 0, 1) := by decide +kernel
theorem dX12_count_67 : decode cX12_count 67 = .ok (.getfield 274, 3) := by decide +kernel
theorem dX12_count_70 : decode cX12_count 70 = .ok (.iaload, 1) := by decide +kernel
theorem dX12_count_71 : decode cX12_count 71 = .ok (.ireturn, 1) := by decide +kernel
theorem dX12_count_72 : decode cX12_count 72 = .ok (.aload_n 0, 1) := by decide +kernel
theorem dX12_count_73 : decode cX12_count 73 = .ok (.invokevirtual 365, 3) := by decide +kernel
theorem dX12_count_76 : decode cX12_count 76 = .ok (.ireturn, 1) := by decide +kernel
theorem dX12_count_77 : decode cX12_count 77 = .ok (.aload_n 0, 1) := by decide +kernel
theorem dX12_count_78 : decode cX12_count 78 = .ok (.invokevirtual 386, 3) := by decide +kernel
theorem dX12_count_81 : decode cX12_count 81 = .ok (.iconst (-1), 1) := by decide +kernel
theorem dX12_count_82 : decode cX12_count 82 = .ok (.if_icmp .ne 8, 3) := by decide +kernel
theorem dX12_count_85 : decode cX12_count 85 = .ok (.bipush (-2), 2) := by decide +kernel
theorem dX12_count_87 : decode cX12_count 87 = .ok (.goto 7, 3) := by decide +kernel
theorem dX12_count_94 : decode cX12_count 94 = .ok (.ireturn, 1) := by decide +kernel
theorem dX12_count_95 : decode cX12_count 95 = .ok (.aload_n 0, 1) := by decide +kernel
theorem dX12_count_96 : decode cX12_count 96 = .ok (.getfield 52, 3) := by decide +kernel
theorem dX12_count_99 : decode cX12_count 99 = .ok (.aload_n 0, 1) := by decide +kernel
theorem dX12_count_100 : decode cX12_count 100 = .ok (.getfield 274, 3) := by decide +kernel
theorem dX12_count_103 : decode cX12_count 103 = .ok (.iaload, 1) := by decide +kernel
theorem dX12_count_104 : decode cX12_count 104 = .ok (.ireturn, 1) := by decide +kernel
theorem dX12_count_105 : decode cX12_count 105 = .ok (.aload_n 0, 1) := by decide +kernel
theorem dX12_count_106 : decode cX12_count 106 = .ok (.getfield 292, 3) := by decide +kernel
theorem dX12_count_109 : decode cX12_count 109 = .ok (.ifCond .eq 10, 3) := by decide +kernel
theorem dX12_count_119 : decode cX12_count 119 = .ok (.bipush (-2), 2) := by decide +kernel
theorem dX12_count_121 : decode cX12_count 121 = .ok (.ireturn, 1) := by decide +kernel
theorem dX12_count_122 : decode cX12_count 122 = .ok (.aload_n 0, 1) := by decide +kernel
theorem dX12_count_123 : decode cX12_count 123 = .ok (.getfield 299, 3) := by decide +kernel
theorem dX12_count_126 : decode cX12_count 126 = .ok (.ireturn, 1) := by decide +kernel
theorem dX12_count_127 : decode cX12_count 127 = .ok (.aload_n 0, 1) := by decide +kernel
theorem dX12_count_128 : decode cX12_count 128 = .ok (.getfield 206, 3) := by decide +kernel
theorem dX12_count_131 : decode cX12_count 131 = .ok (.ireturn, 1) := by decide +kernel
theorem dX12_count_132 : decode cX12_count 132 = .ok (.aload_n 0, 1) := by decide +kernel
theorem dX12_count_133 : decode cX12_count 133 = .ok (.getfield 184, 3) := by decide +kernel
theorem dX12_count_136 : decode cX12_count 136 = .ok (.iconst 0, 1) := by decide +kernel
theorem dX12_count_137 : decode cX12_count 137 = .ok (.baload, 1) := by decide +kernel
theorem dX12_count_138 : decode cX12_count 138 = .ok (.ifCond .eq 7, 3) := by decide +kernel
theorem dX12_count_145 : decode cX12_count 145 = .ok (.iconst 0, 1) := by decide +kernel
theorem dX12_count_146 : decode cX12_count 146 = .ok (.aload_n 0, 1) := by decide +kernel
theorem dX12_count_147 : decode cX12_count 147 = .ok (.getfield 184, 3) := by decide +kernel
theorem dX12_count_150 : decode cX12_count 150 = .ok (.iconst 1, 1) := by decide +kernel
theorem dX12_count_151 : decode cX12_count 151 = .ok (.baload, 1) := by decide +kernel
theorem dX12_count_152 : decode cX12_count 152 = .ok (.ifCond .eq 7, 3) := by decide +kernel
theorem dX12_count_159 : decode cX12_count 159 = .ok (.iconst 0, 1) := by decide +kernel
theorem dX12_count_160 : decode cX12_count 160 = .ok (.iadd, 1) := by decide +kernel
theorem dX12_count_161 : decode cX12_count 161 = .ok (.ireturn, 1) := by decide +kernel
theorem dX12_count_162 : decode cX12_count 162 = .ok (.aload_n 0, 1) := by decide +kernel
theorem dX12_count_163 : decode cX12_count 163 = .ok (.iload_n 1, 1) := by decide +kernel
theorem dX12_count_164 : decode cX12_count 164 = .ok (.bipush 10, 2) := by decide +kernel
theorem dX12_count_166 : decode cX12_count 166 = .ok (.isub, 1) := by decide +kernel
theorem dX12_count_167 : decode cX12_count 167 = .ok (.invokevirtual 630, 3) := by decide +kernel
theorem dX12_count_170 : decode cX12_count 170 = .ok (.ifCond .eq 44, 3) := by decide +kernel
theorem dX12_count_214 : decode cX12_count 214 = .ok (.iconst (-1), 1) := by decide +kernel
theorem dX12_count_215 : decode cX12_count 215 = .ok (.ireturn, 1) := by decide +kernel
theorem dX12_differs_0 : decode cX12_differs 0 = .ok (.aload_n 0, 1) := by decide +kernel
theorem dX12_differs_1 : decode cX12_differs 1 = .ok (.iload_n 1, 1) := by decide +kernel
theorem dX12_differs_2 : decode cX12_differs 2 = .ok (.invokevirtual 572, 3) := by decide +kernel
theorem dX12_differs_5 : decode cX12_differs 5 = .ok (.ifCond .ne 5, 3) := by decide +kernel
theorem dX12_differs_8 : decode cX12_differs 8 = .ok (.iconst (-1), 1) := by decide +kernel
theorem dX12_differs_9 : decode cX12_differs 9 = .ok (.ireturn, 1) := by decide +kernel
theorem dX12_gain_0 : decode cX12_gain 0 = .ok (.aload_n 0, 1) := by decide +kernel
theorem dX12_gain_1 : decode cX12_gain 1 = .ok (.iload_n 1, 1) := by decide +kernel
theorem dX12_gain_2 : decode cX12_gain 2 = .ok (.invokevirtual 455, 3) := by decide +kernel
theorem dX12_gain_5 : decode cX12_gain 5 = .ok (.ifCond .eq 11, 3) := by decide +kernel
theorem dX12_gain_8 : decode cX12_gain 8 = .ok (.aload_n 0, 1) := by decide +kernel
theorem dX12_gain_9 : decode cX12_gain 9 = .ok (.iload_n 3, 1) := by decide +kernel
theorem dX12_gain_10 : decode cX12_gain 10 = .ok (.invokevirtual 614, 3) := by decide +kernel
theorem dX12_gain_13 : decode cX12_gain 13 = .ok (.ifCond .ne 7, 3) := by decide +kernel
theorem dX12_gain_16 : decode cX12_gain 16 = .ok (.sipush (-1000), 3) := by decide +kernel
theorem dX12_gain_19 : decode cX12_gain 19 = .ok (.ireturn, 1) := by decide +kernel
theorem dX12_had_0 : decode cX12_had 0 = .ok (.aload_n 0, 1) := by decide +kernel
theorem dX12_had_1 : decode cX12_had 1 = .ok (.iload_n 1, 1) := by decide +kernel
theorem dX12_had_2 : decode cX12_had 2 = .ok (.iload 4, 2) := by decide +kernel
theorem dX12_had_4 : decode cX12_had 4 = .ok (.invokevirtual 502, 3) := by decide +kernel
theorem dX12_had_7 : decode cX12_had 7 = .ok (.ifCond .eq 23, 3) := by decide +kernel
theorem dX12_had_30 : decode cX12_had 30 = .ok (.iconst (-1), 1) := by decide +kernel
theorem dX12_had_31 : decode cX12_had 31 = .ok (.ireturn, 1) := by decide +kernel
theorem dX12_hand_0 : decode cX12_hand 0 = .ok (.aload_n 0, 1) := by decide +kernel
theorem dX12_hand_1 : decode cX12_hand 1 = .ok (.getfield 292, 3) := by decide +kernel
theorem dX12_hand_4 : decode cX12_hand 4 = .ok (.ifCond .eq 10, 3) := by decide +kernel
theorem dX12_hand_14 : decode cX12_hand 14 = .ok (.iconst (-1), 1) := by decide +kernel
theorem dX12_hand_15 : decode cX12_hand 15 = .ok (.goto 21, 3) := by decide +kernel
theorem dX12_hand_36 : decode cX12_hand 36 = .ok (.ireturn, 1) := by decide +kernel
theorem dX12_handSize_0 : decode cX12_handSize 0 = .ok (.aload_n 0, 1) := by decide +kernel
theorem dX12_handSize_1 : decode cX12_handSize 1 = .ok (.invokevirtual 351, 3) := by decide +kernel
theorem dX12_handSize_4 : decode cX12_handSize 4 = .ok (.iconst 4, 1) := by decide +kernel
theorem dX12_handSize_5 : decode cX12_handSize 5 = .ok (.idiv, 1) := by decide +kernel
theorem dX12_handSize_6 : decode cX12_handSize 6 = .ok (.ireturn, 1) := by decide +kernel
theorem dX12_hold_0 : decode cX12_hold 0 = .ok (.iload_n 1, 1) := by decide +kernel
theorem dX12_hold_1 : decode cX12_hold 1 = .ok (.iconst 0, 1) := by decide +kernel
theorem dX12_hold_2 : decode cX12_hold 2 = .ok (.iconst 1, 1) := by decide +kernel
theorem dX12_hold_3 : decode cX12_hold 3 = .ok (.invokestatic 310, 3) := by decide +kernel
theorem dX12_hold_6 : decode cX12_hold 6 = .ok (.ifCond .eq 10, 3) := by decide +kernel
theorem dX12_hold_9 : decode cX12_hold 9 = .ok (.aload_n 0, 1) := by decide +kernel
theorem dX12_hold_10 : decode cX12_hold 10 = .ok (.getfield 292, 3) := by decide +kernel
theorem dX12_hold_13 : decode cX12_hold 13 = .ok (.ifCond .ne 5, 3) := by decide +kernel
theorem dX12_hold_16 : decode cX12_hold 16 = .ok (.iconst 0, 1) := by decide +kernel
theorem dX12_hold_17 : decode cX12_hold 17 = .ok (.ireturn, 1) := by decide +kernel
theorem dX12_in_0 : decode cX12_in 0 = .ok (.iload_n 0, 1) := by decide +kernel
theorem dX12_in_1 : decode cX12_in 1 = .ok (.iload_n 1, 1) := by decide +kernel
theorem dX12_in_2 : decode cX12_in 2 = .ok (.if_icmp .lt 12, 3) := by decide +kernel
theorem dX12_in_5 : decode cX12_in 5 = .ok (.iload_n 0, 1) := by decide +kernel
theorem dX12_in_6 : decode cX12_in 6 = .ok (.iload_n 2, 1) := by decide +kernel
theorem dX12_in_7 : decode cX12_in 7 = .ok (.if_icmp .gt 7, 3) := by decide +kernel
theorem dX12_in_10 : decode cX12_in 10 = .ok (.iconst 1, 1) := by decide +kernel
theorem dX12_in_11 : decode cX12_in 11 = .ok (.goto 4, 3) := by decide +kernel
theorem dX12_in_14 : decode cX12_in 14 = .ok (.iconst 0, 1) := by decide +kernel
theorem dX12_in_15 : decode cX12_in 15 = .ok (.ireturn, 1) := by decide +kernel
theorem dX12_isCustom_0 : decode cX12_isCustom 0 = .ok (.iload_n 1, 1) := by decide +kernel
theorem dX12_isCustom_1 : decode cX12_isCustom 1 = .ok (.iconst 0, 1) := by decide +kernel
theorem dX12_isCustom_2 : decode cX12_isCustom 2 = .ok (.aload_n 0, 1) := by decide +kernel
theorem dX12_isCustom_3 : decode cX12_isCustom 3 = .ok (.getfield 52, 3) := by decide +kernel
theorem dX12_isCustom_6 : decode cX12_isCustom 6 = .ok (.aload_n 0, 1) := by decide +kernel
theorem dX12_isCustom_7 : decode cX12_isCustom 7 = .ok (.getfield 274, 3) := by decide +kernel
theorem dX12_isCustom_10 : decode cX12_isCustom 10 = .ok (.iaload, 1) := by decide +kernel
theorem dX12_isCustom_11 : decode cX12_isCustom 11 = .ok (.iconst 1, 1) := by decide +kernel
theorem dX12_isCustom_12 : decode cX12_isCustom 12 = .ok (.isub, 1) := by decide +kernel
theorem dX12_isCustom_13 : decode cX12_isCustom 13 = .ok (.invokestatic 310, 3) := by decide +kernel
theorem dX12_isCustom_16 : decode cX12_isCustom 16 = .ok (.ireturn, 1) := by decide +kernel
theorem dX12_kept_0 : decode cX12_kept 0 = .ok (.iload_n 1, 1) := by decide +kernel
theorem dX12_kept_1 : decode cX12_kept 1 = .ok (.iconst 0, 1) := by decide +kernel
theorem dX12_kept_2 : decode cX12_kept 2 = .ok (.aload_n 0, 1) := by decide +kernel
theorem dX12_kept_3 : decode cX12_kept 3 = .ok (.getfield 299, 3) := by decide +kernel
theorem dX12_kept_6 : decode cX12_kept 6 = .ok (.invokestatic 310, 3) := by decide +kernel
theorem dX12_kept_9 : decode cX12_kept 9 = .ok (.ifCond .ne 5, 3) := by decide +kernel
theorem dX12_kept_12 : decode cX12_kept 12 = .ok (.iconst (-1), 1) := by decide +kernel
theorem dX12_kept_13 : decode cX12_kept 13 = .ok (.ireturn, 1) := by decide +kernel
theorem dX12_kept_14 : decode cX12_kept 14 = .ok (.iconst 0, 1) := by decide +kernel
theorem dX12_kept_15 : decode cX12_kept 15 = .ok (.istore_n 2, 1) := by decide +kernel
theorem dX12_kept_16 : decode cX12_kept 16 = .ok (.iconst 0, 1) := by decide +kernel
theorem dX12_kept_17 : decode cX12_kept 17 = .ok (.istore_n 3, 1) := by decide +kernel
theorem dX12_kept_18 : decode cX12_kept 18 = .ok (.iload_n 3, 1) := by decide +kernel
theorem dX12_kept_19 : decode cX12_kept 19 = .ok (.aload_n 0, 1) := by decide +kernel
theorem dX12_kept_20 : decode cX12_kept 20 = .ok (.getfield 52, 3) := by decide +kernel
theorem dX12_kept_23 : decode cX12_kept 23 = .ok (.aload_n 0, 1) := by decide +kernel
theorem dX12_kept_24 : decode cX12_kept 24 = .ok (.getfield 274, 3) := by decide +kernel
theorem dX12_kept_27 : decode cX12_kept 27 = .ok (.iaload, 1) := by decide +kernel
theorem dX12_kept_28 : decode cX12_kept 28 = .ok (.if_icmp .ge 25, 3) := by decide +kernel
theorem dX12_kept_53 : decode cX12_kept 53 = .ok (.iload_n 2, 1) := by decide +kernel
theorem dX12_kept_54 : decode cX12_kept 54 = .ok (.ireturn, 1) := by decide +kernel
theorem dX12_knows_0 : decode cX12_knows 0 = .ok (.aload_n 0, 1) := by decide +kernel
theorem dX12_knows_1 : decode cX12_knows 1 = .ok (.iload_n 1, 1) := by decide +kernel
theorem dX12_knows_2 : decode cX12_knows 2 = .ok (.iload 4, 2) := by decide +kernel
theorem dX12_knows_4 : decode cX12_knows 4 = .ok (.invokevirtual 502, 3) := by decide +kernel
theorem dX12_knows_7 : decode cX12_knows 7 = .ok (.ifCond .eq 23, 3) := by decide +kernel
theorem dX12_knows_30 : decode cX12_knows 30 = .ok (.iconst (-1), 1) := by decide +kernel
theorem dX12_knows_31 : decode cX12_knows 31 = .ok (.ireturn, 1) := by decide +kernel
theorem dX12_lead_0 : decode cX12_lead 0 = .ok (.aload_n 0, 1) := by decide +kernel
theorem dX12_lead_1 : decode cX12_lead 1 = .ok (.getfield 292, 3) := by decide +kernel
theorem dX12_lead_4 : decode cX12_lead 4 = .ok (.ifCond .eq 17, 3) := by decide +kernel
theorem dX12_lead_21 : decode cX12_lead 21 = .ok (.iconst 0, 1) := by decide +kernel
theorem dX12_lead_22 : decode cX12_lead 22 = .ok (.ireturn, 1) := by decide +kernel
theorem dX12_lies_0 : decode cX12_lies 0 = .ok (.aload_n 0, 1) := by decide +kernel
theorem dX12_lies_1 : decode cX12_lies 1 = .ok (.invokevirtual 396, 3) := by decide +kernel
theorem dX12_lies_4 : decode cX12_lies 4 = .ok (.ifCond .lt 22, 3) := by decide +kernel
theorem dX12_lies_26 : decode cX12_lies 26 = .ok (.iconst (-1), 1) := by decide +kernel
theorem dX12_lies_27 : decode cX12_lies 27 = .ok (.ireturn, 1) := by decide +kernel
theorem dX12_line_0 : decode cX12_line 0 = .ok (.aload_n 0, 1) := by decide +kernel
theorem dX12_line_1 : decode cX12_line 1 = .ok (.getfield 292, 3) := by decide +kernel
theorem dX12_line_4 : decode cX12_line 4 = .ok (.ifCond .eq 20, 3) := by decide +kernel
theorem dX12_line_24 : decode cX12_line 24 = .ok (.iconst (-1), 1) := by decide +kernel
theorem dX12_line_25 : decode cX12_line 25 = .ok (.ireturn, 1) := by decide +kernel
theorem dX12_loss_0 : decode cX12_loss 0 = .ok (.aload_n 0, 1) := by decide +kernel
theorem dX12_loss_1 : decode cX12_loss 1 = .ok (.iload_n 1, 1) := by decide +kernel
theorem dX12_loss_2 : decode cX12_loss 2 = .ok (.invokevirtual 572, 3) := by decide +kernel
theorem dX12_loss_5 : decode cX12_loss 5 = .ok (.ifCond .ne 5, 3) := by decide +kernel
theorem dX12_loss_8 : decode cX12_loss 8 = .ok (.iconst (-1), 1) := by decide +kernel
theorem dX12_loss_9 : decode cX12_loss 9 = .ok (.ireturn, 1) := by decide +kernel
theorem dX12_may_0 : decode cX12_may 0 = .ok (.aload_n 0, 1) := by decide +kernel
theorem dX12_may_1 : decode cX12_may 1 = .ok (.invokevirtual 405, 3) := by decide +kernel
theorem dX12_may_4 : decode cX12_may 4 = .ok (.ireturn, 1) := by decide +kernel
theorem dX12_mayNow_0 : decode cX12_mayNow 0 = .ok (.aload_n 0, 1) := by decide +kernel
theorem dX12_mayNow_1 : decode cX12_mayNow 1 = .ok (.invokevirtual 396, 3) := by decide +kernel
theorem dX12_mayNow_4 : decode cX12_mayNow 4 = .ok (.istore_n 1, 1) := by decide +kernel
theorem dX12_mayNow_5 : decode cX12_mayNow 5 = .ok (.iload_n 1, 1) := by decide +kernel
theorem dX12_mayNow_6 : decode cX12_mayNow 6 = .ok (.ifCond .ge 5, 3) := by decide +kernel
theorem dX12_mayNow_9 : decode cX12_mayNow 9 = .ok (.iconst 0, 1) := by decide +kernel
theorem dX12_mayNow_10 : decode cX12_mayNow 10 = .ok (.ireturn, 1) := by decide +kernel
theorem dX12_mean_0 : decode cX12_mean 0 = .ok (.aload_n 0, 1) := by decide +kernel
theorem dX12_mean_1 : decode cX12_mean 1 = .ok (.iload_n 2, 1) := by decide +kernel
theorem dX12_mean_2 : decode cX12_mean 2 = .ok (.invokevirtual 572, 3) := by decide +kernel
theorem dX12_mean_5 : decode cX12_mean 5 = .ok (.ifCond .eq 22, 3) := by decide +kernel
theorem dX12_mean_27 : decode cX12_mean 27 = .ok (.ldc2_w 575, 3) := by decide +kernel
theorem dX12_mean_30 : decode cX12_mean 30 = .ok (.lreturn, 1) := by decide +kernel
theorem dX12_open_0 : decode cX12_open 0 = .ok (.aload_n 0, 1) := by decide +kernel
theorem dX12_open_1 : decode cX12_open 1 = .ok (.getfield 292, 3) := by decide +kernel
theorem dX12_open_4 : decode cX12_open 4 = .ok (.ifCond .eq 10, 3) := by decide +kernel
theorem dX12_open_14 : decode cX12_open 14 = .ok (.bipush (-2), 2) := by decide +kernel
theorem dX12_open_16 : decode cX12_open 16 = .ok (.ireturn, 1) := by decide +kernel
theorem dX12_openings_0 : decode cX12_openings 0 = .ok (.aload_n 0, 1) := by decide +kernel
theorem dX12_openings_1 : decode cX12_openings 1 = .ok (.iload_n 1, 1) := by decide +kernel
theorem dX12_openings_2 : decode cX12_openings 2 = .ok (.invokevirtual 630, 3) := by decide +kernel
theorem dX12_openings_5 : decode cX12_openings 5 = .ok (.ifCond .eq 12, 3) := by decide +kernel
theorem dX12_openings_17 : decode cX12_openings 17 = .ok (.iconst (-1), 1) := by decide +kernel
theorem dX12_openings_18 : decode cX12_openings 18 = .ok (.ireturn, 1) := by decide +kernel
theorem dX12_place_0 : decode cX12_place 0 = .ok (.aload_n 0, 1) := by decide +kernel
theorem dX12_place_1 : decode cX12_place 1 = .ok (.getfield 37, 3) := by decide +kernel
theorem dX12_place_4 : decode cX12_place 4 = .ok (.ireturn, 1) := by decide +kernel
theorem dX12_play_0 : decode cX12_play 0 = .ok (.aload_n 0, 1) := by decide +kernel
theorem dX12_play_1 : decode cX12_play 1 = .ok (.iload_n 1, 1) := by decide +kernel
theorem dX12_play_2 : decode cX12_play 2 = .ok (.invokevirtual 411, 3) := by decide +kernel
theorem dX12_play_5 : decode cX12_play 5 = .ok (.ifCond .ne 5, 3) := by decide +kernel
theorem dX12_play_8 : decode cX12_play 8 = .ok (.iconst (-1), 1) := by decide +kernel
theorem dX12_play_9 : decode cX12_play 9 = .ok (.ireturn, 1) := by decide +kernel
theorem dX12_quarrel_0 : decode cX12_quarrel 0 = .ok (.aload_n 0, 1) := by decide +kernel
theorem dX12_quarrel_1 : decode cX12_quarrel 1 = .ok (.iload_n 1, 1) := by decide +kernel
theorem dX12_quarrel_2 : decode cX12_quarrel 2 = .ok (.invokevirtual 630, 3) := by decide +kernel
theorem dX12_quarrel_5 : decode cX12_quarrel 5 = .ok (.ifCond .eq 16, 3) := by decide +kernel
theorem dX12_quarrel_21 : decode cX12_quarrel 21 = .ok (.iconst (-1), 1) := by decide +kernel
theorem dX12_quarrel_22 : decode cX12_quarrel 22 = .ok (.ireturn, 1) := by decide +kernel
theorem dX12_restore_0 : decode cX12_restore 0 = .ok (.iload_n 1, 1) := by decide +kernel
theorem dX12_restore_1 : decode cX12_restore 1 = .ok (.iconst 0, 1) := by decide +kernel
theorem dX12_restore_2 : decode cX12_restore 2 = .ok (.iconst 1, 1) := by decide +kernel
theorem dX12_restore_3 : decode cX12_restore 3 = .ok (.invokestatic 310, 3) := by decide +kernel
theorem dX12_restore_6 : decode cX12_restore 6 = .ok (.ifCond .eq 12, 3) := by decide +kernel
theorem dX12_restore_9 : decode cX12_restore 9 = .ok (.aload_n 0, 1) := by decide +kernel
theorem dX12_restore_10 : decode cX12_restore 10 = .ok (.getfield 184, 3) := by decide +kernel
theorem dX12_restore_13 : decode cX12_restore 13 = .ok (.iload_n 1, 1) := by decide +kernel
theorem dX12_restore_14 : decode cX12_restore 14 = .ok (.baload, 1) := by decide +kernel
theorem dX12_restore_15 : decode cX12_restore 15 = .ok (.ifCond .ne 5, 3) := by decide +kernel
theorem dX12_restore_18 : decode cX12_restore 18 = .ok (.iconst 0, 1) := by decide +kernel
theorem dX12_restore_19 : decode cX12_restore 19 = .ok (.ireturn, 1) := by decide +kernel
theorem dX12_revoke_0 : decode cX12_revoke 0 = .ok (.aload_n 0, 1) := by decide +kernel
theorem dX12_revoke_1 : decode cX12_revoke 1 = .ok (.iload_n 1, 1) := by decide +kernel
theorem dX12_revoke_2 : decode cX12_revoke 2 = .ok (.invokevirtual 411, 3) := by decide +kernel
theorem dX12_revoke_5 : decode cX12_revoke 5 = .ok (.ifCond .eq 15, 3) := by decide +kernel
theorem dX12_revoke_20 : decode cX12_revoke 20 = .ok (.iconst (-1), 1) := by decide +kernel
theorem dX12_revoke_21 : decode cX12_revoke 21 = .ok (.ireturn, 1) := by decide +kernel
theorem dX12_revokes_0 : decode cX12_revokes 0 = .ok (.iload_n 1, 1) := by decide +kernel
theorem dX12_revokes_1 : decode cX12_revokes 1 = .ok (.iconst 0, 1) := by decide +kernel
theorem dX12_revokes_2 : decode cX12_revokes 2 = .ok (.iconst 2, 1) := by decide +kernel
theorem dX12_revokes_3 : decode cX12_revokes 3 = .ok (.invokestatic 310, 3) := by decide +kernel
theorem dX12_revokes_6 : decode cX12_revokes 6 = .ok (.ifCond .ne 5, 3) := by decide +kernel
theorem dX12_revokes_9 : decode cX12_revokes 9 = .ok (.iconst (-1), 1) := by decide +kernel
theorem dX12_revokes_10 : decode cX12_revokes 10 = .ok (.ireturn, 1) := by decide +kernel
theorem dX12_revokes_11 : decode cX12_revokes 11 = .ok (.iconst 0, 1) := by decide +kernel
theorem dX12_revokes_12 : decode cX12_revokes 12 = .ok (.istore_n 2, 1) := by decide +kernel
theorem dX12_revokes_13 : decode cX12_revokes 13 = .ok (.iconst 0, 1) := by decide +kernel
theorem dX12_revokes_14 : decode cX12_revokes 14 = .ok (.istore_n 3, 1) := by decide +kernel
theorem dX12_revokes_15 : decode cX12_revokes 15 = .ok (.bipush (-2), 2) := by decide +kernel
theorem dX12_revokes_17 : decode cX12_revokes 17 = .ok (.istore 4, 2) := by decide +kernel
theorem dX12_revokes_19 : decode cX12_revokes 19 = .ok (.iconst 0, 1) := by decide +kernel
theorem dX12_revokes_20 : decode cX12_revokes 20 = .ok (.istore 5, 2) := by decide +kernel
theorem dX12_revokes_22 : decode cX12_revokes 22 = .ok (.iload 5, 2) := by decide +kernel
theorem dX12_revokes_24 : decode cX12_revokes 24 = .ok (.aload_n 0, 1) := by decide +kernel
theorem dX12_revokes_25 : decode cX12_revokes 25 = .ok (.getfield 296, 3) := by decide +kernel
theorem dX12_revokes_28 : decode cX12_revokes 28 = .ok (.if_icmp .ge 63, 3) := by decide +kernel
theorem dX12_revokes_91 : decode cX12_revokes 91 = .ok (.iload_n 1, 1) := by decide +kernel
theorem dX12_revokes_92 : decode cX12_revokes 92 = .ok (.ifCond .ne 7, 3) := by decide +kernel
theorem dX12_revokes_95 : decode cX12_revokes 95 = .ok (.iload_n 2, 1) := by decide +kernel
theorem dX12_revokes_96 : decode cX12_revokes 96 = .ok (.goto 14, 3) := by decide +kernel
theorem dX12_revokes_99 : decode cX12_revokes 99 = .ok (.iload_n 1, 1) := by decide +kernel
theorem dX12_revokes_100 : decode cX12_revokes 100 = .ok (.iconst 1, 1) := by decide +kernel
theorem dX12_revokes_101 : decode cX12_revokes 101 = .ok (.if_icmp .ne 7, 3) := by decide +kernel
theorem dX12_revokes_104 : decode cX12_revokes 104 = .ok (.iload_n 3, 1) := by decide +kernel
theorem dX12_revokes_105 : decode cX12_revokes 105 = .ok (.goto 5, 3) := by decide +kernel
theorem dX12_revokes_108 : decode cX12_revokes 108 = .ok (.iload 4, 2) := by decide +kernel
theorem dX12_revokes_110 : decode cX12_revokes 110 = .ok (.ireturn, 1) := by decide +kernel
theorem dX12_safe_0 : decode cX12_safe 0 = .ok (.aload_n 0, 1) := by decide +kernel
theorem dX12_safe_1 : decode cX12_safe 1 = .ok (.iload_n 1, 1) := by decide +kernel
theorem dX12_safe_2 : decode cX12_safe 2 = .ok (.invokevirtual 572, 3) := by decide +kernel
theorem dX12_safe_5 : decode cX12_safe 5 = .ok (.ifCond .eq 12, 3) := by decide +kernel
theorem dX12_safe_17 : decode cX12_safe 17 = .ok (.iconst (-1), 1) := by decide +kernel
theorem dX12_safe_18 : decode cX12_safe 18 = .ok (.ireturn, 1) := by decide +kernel
theorem dX12_says_0 : decode cX12_says 0 = .ok (.aload_n 0, 1) := by decide +kernel
theorem dX12_says_1 : decode cX12_says 1 = .ok (.getfield 292, 3) := by decide +kernel
theorem dX12_says_4 : decode cX12_says 4 = .ok (.ifCond .eq 34, 3) := by decide +kernel
theorem dX12_says_38 : decode cX12_says 38 = .ok (.iconst (-1), 1) := by decide +kernel
theorem dX12_says_39 : decode cX12_says 39 = .ok (.ireturn, 1) := by decide +kernel
theorem dX12_spread_0 : decode cX12_spread 0 = .ok (.aload_n 0, 1) := by decide +kernel
theorem dX12_spread_1 : decode cX12_spread 1 = .ok (.iload_n 2, 1) := by decide +kernel
theorem dX12_spread_2 : decode cX12_spread 2 = .ok (.invokevirtual 572, 3) := by decide +kernel
theorem dX12_spread_5 : decode cX12_spread 5 = .ok (.ifCond .eq 31, 3) := by decide +kernel
theorem dX12_spread_36 : decode cX12_spread 36 = .ok (.iconst (-1), 1) := by decide +kernel
theorem dX12_spread_37 : decode cX12_spread 37 = .ok (.ireturn, 1) := by decide +kernel
theorem dX12_sure_0 : decode cX12_sure 0 = .ok (.aload_n 0, 1) := by decide +kernel
theorem dX12_sure_1 : decode cX12_sure 1 = .ok (.iload_n 1, 1) := by decide +kernel
theorem dX12_sure_2 : decode cX12_sure 2 = .ok (.iload_n 2, 1) := by decide +kernel
theorem dX12_sure_3 : decode cX12_sure 3 = .ok (.invokevirtual 502, 3) := by decide +kernel
theorem dX12_sure_6 : decode cX12_sure 6 = .ok (.ifCond .ne 5, 3) := by decide +kernel
theorem dX12_sure_9 : decode cX12_sure 9 = .ok (.iconst (-1), 1) := by decide +kernel
theorem dX12_sure_10 : decode cX12_sure 10 = .ok (.ireturn, 1) := by decide +kernel
theorem dX12_told_0 : decode cX12_told 0 = .ok (.aload_n 0, 1) := by decide +kernel
theorem dX12_told_1 : decode cX12_told 1 = .ok (.iload_n 1, 1) := by decide +kernel
theorem dX12_told_2 : decode cX12_told 2 = .ok (.invokevirtual 630, 3) := by decide +kernel
theorem dX12_told_5 : decode cX12_told 5 = .ok (.ifCond .eq 43, 3) := by decide +kernel
theorem dX12_told_48 : decode cX12_told 48 = .ok (.iconst (-1), 1) := by decide +kernel
theorem dX12_told_49 : decode cX12_told 49 = .ok (.ireturn, 1) := by decide +kernel
theorem dX12_tricks_0 : decode cX12_tricks 0 = .ok (.iload_n 1, 1) := by decide +kernel
theorem dX12_tricks_1 : decode cX12_tricks 1 = .ok (.iconst 0, 1) := by decide +kernel
theorem dX12_tricks_2 : decode cX12_tricks 2 = .ok (.iconst 1, 1) := by decide +kernel
theorem dX12_tricks_3 : decode cX12_tricks 3 = .ok (.invokestatic 310, 3) := by decide +kernel
theorem dX12_tricks_6 : decode cX12_tricks 6 = .ok (.ifCond .ne 5, 3) := by decide +kernel
theorem dX12_tricks_9 : decode cX12_tricks 9 = .ok (.iconst (-1), 1) := by decide +kernel
theorem dX12_tricks_10 : decode cX12_tricks 10 = .ok (.ireturn, 1) := by decide +kernel
theorem dX12_tricks_11 : decode cX12_tricks 11 = .ok (.iconst 0, 1) := by decide +kernel
theorem dX12_tricks_12 : decode cX12_tricks 12 = .ok (.istore_n 2, 1) := by decide +kernel
theorem dX12_tricks_13 : decode cX12_tricks 13 = .ok (.iconst 0, 1) := by decide +kernel
theorem dX12_tricks_14 : decode cX12_tricks 14 = .ok (.istore_n 3, 1) := by decide +kernel
theorem dX12_tricks_15 : decode cX12_tricks 15 = .ok (.iload_n 3, 1) := by decide +kernel
theorem dX12_tricks_16 : decode cX12_tricks 16 = .ok (.aload_n 0, 1) := by decide +kernel
theorem dX12_tricks_17 : decode cX12_tricks 17 = .ok (.getfield 296, 3) := by decide +kernel
theorem dX12_tricks_20 : decode cX12_tricks 20 = .ok (.iconst 4, 1) := by decide +kernel
theorem dX12_tricks_21 : decode cX12_tricks 21 = .ok (.idiv, 1) := by decide +kernel
theorem dX12_tricks_22 : decode cX12_tricks 22 = .ok (.if_icmp .ge 23, 3) := by decide +kernel
theorem dX12_tricks_45 : decode cX12_tricks 45 = .ok (.iload_n 2, 1) := by decide +kernel
theorem dX12_tricks_46 : decode cX12_tricks 46 = .ok (.ireturn, 1) := by decide +kernel
theorem dX12_trumpSuit_0 : decode cX12_trumpSuit 0 = .ok (.aload_n 0, 1) := by decide +kernel
theorem dX12_trumpSuit_1 : decode cX12_trumpSuit 1 = .ok (.getfield 49, 3) := by decide +kernel
theorem dX12_trumpSuit_4 : decode cX12_trumpSuit 4 = .ok (.aload_n 0, 1) := by decide +kernel
theorem dX12_trumpSuit_5 : decode cX12_trumpSuit 5 = .ok (.getfield 274, 3) := by decide +kernel
theorem dX12_trumpSuit_8 : decode cX12_trumpSuit 8 = .ok (.iaload, 1) := by decide +kernel
theorem dX12_trumpSuit_9 : decode cX12_trumpSuit 9 = .ok (.aload_n 0, 1) := by decide +kernel
theorem dX12_trumpSuit_10 : decode cX12_trumpSuit 10 = .ok (.getfield 43, 3) := by decide +kernel
theorem dX12_trumpSuit_13 : decode cX12_trumpSuit 13 = .ok (.aload_n 0, 1) := by decide +kernel
theorem dX12_trumpSuit_14 : decode cX12_trumpSuit 14 = .ok (.getfield 274, 3) := by decide +kernel
theorem dX12_trumpSuit_17 : decode cX12_trumpSuit 17 = .ok (.iaload, 1) := by decide +kernel
theorem dX12_trumpSuit_18 : decode cX12_trumpSuit 18 = .ok (.if_icmp .ge 15, 3) := by decide +kernel
theorem dX12_trumpSuit_21 : decode cX12_trumpSuit 21 = .ok (.aload_n 0, 1) := by decide +kernel
theorem dX12_trumpSuit_22 : decode cX12_trumpSuit 22 = .ok (.getfield 49, 3) := by decide +kernel
theorem dX12_trumpSuit_25 : decode cX12_trumpSuit 25 = .ok (.aload_n 0, 1) := by decide +kernel
theorem dX12_trumpSuit_26 : decode cX12_trumpSuit 26 = .ok (.getfield 274, 3) := by decide +kernel
theorem dX12_trumpSuit_29 : decode cX12_trumpSuit 29 = .ok (.iaload, 1) := by decide +kernel
theorem dX12_trumpSuit_30 : decode cX12_trumpSuit 30 = .ok (.goto 4, 3) := by decide +kernel
theorem dX12_trumpSuit_34 : decode cX12_trumpSuit 34 = .ok (.ireturn, 1) := by decide +kernel
theorem dX12_turn_0 : decode cX12_turn 0 = .ok (.aload_n 0, 1) := by decide +kernel
theorem dX12_turn_1 : decode cX12_turn 1 = .ok (.invokevirtual 396, 3) := by decide +kernel
theorem dX12_turn_4 : decode cX12_turn 4 = .ok (.ireturn, 1) := by decide +kernel
theorem dX12_turnNow_0 : decode cX12_turnNow 0 = .ok (.aload_n 0, 1) := by decide +kernel
theorem dX12_turnNow_1 : decode cX12_turnNow 1 = .ok (.getfield 292, 3) := by decide +kernel
theorem dX12_turnNow_4 : decode cX12_turnNow 4 = .ok (.ifCond .eq 14, 3) := by decide +kernel
theorem dX12_turnNow_18 : decode cX12_turnNow 18 = .ok (.bipush (-2), 2) := by decide +kernel
theorem dX12_turnNow_20 : decode cX12_turnNow 20 = .ok (.ireturn, 1) := by decide +kernel
theorem dX12_undo_0 : decode cX12_undo 0 = .ok (.aload_n 0, 1) := by decide +kernel
theorem dX12_undo_1 : decode cX12_undo 1 = .ok (.getfield 296, 3) := by decide +kernel
theorem dX12_undo_4 : decode cX12_undo 4 = .ok (.ifCond .ne 5, 3) := by decide +kernel
theorem dX12_undo_7 : decode cX12_undo 7 = .ok (.iconst (-1), 1) := by decide +kernel
theorem dX12_undo_8 : decode cX12_undo 8 = .ok (.ireturn, 1) := by decide +kernel
theorem dX12_winner_0 : decode cX12_winner 0 = .ok (.iload_n 1, 1) := by decide +kernel
theorem dX12_winner_1 : decode cX12_winner 1 = .ok (.iconst 0, 1) := by decide +kernel
theorem dX12_winner_2 : decode cX12_winner 2 = .ok (.aload_n 0, 1) := by decide +kernel
theorem dX12_winner_3 : decode cX12_winner 3 = .ok (.getfield 296, 3) := by decide +kernel
theorem dX12_winner_6 : decode cX12_winner 6 = .ok (.iconst 4, 1) := by decide +kernel
theorem dX12_winner_7 : decode cX12_winner 7 = .ok (.idiv, 1) := by decide +kernel
theorem dX12_winner_8 : decode cX12_winner 8 = .ok (.iconst 1, 1) := by decide +kernel
theorem dX12_winner_9 : decode cX12_winner 9 = .ok (.isub, 1) := by decide +kernel
theorem dX12_winner_10 : decode cX12_winner 10 = .ok (.invokestatic 310, 3) := by decide +kernel
theorem dX12_winner_13 : decode cX12_winner 13 = .ok (.ifCond .eq 11, 3) := by decide +kernel
theorem dX12_winner_24 : decode cX12_winner 24 = .ok (.iconst (-1), 1) := by decide +kernel
theorem dX12_winner_25 : decode cX12_winner 25 = .ok (.ireturn, 1) := by decide +kernel
theorem dX12_worth_0 : decode cX12_worth 0 = .ok (.aload_n 0, 1) := by decide +kernel
theorem dX12_worth_1 : decode cX12_worth 1 = .ok (.iload_n 1, 1) := by decide +kernel
theorem dX12_worth_2 : decode cX12_worth 2 = .ok (.invokevirtual 572, 3) := by decide +kernel
theorem dX12_worth_5 : decode cX12_worth 5 = .ok (.ifCond .eq 10, 3) := by decide +kernel
theorem dX12_worth_15 : decode cX12_worth 15 = .ok (.ldc2_w 594, 3) := by decide +kernel
theorem dX12_worth_18 : decode cX12_worth 18 = .ok (.lreturn, 1) := by decide +kernel
theorem dX3_isOver_0 : decode cX3_isOver 0 = .ok (.aload_n 0, 1) := by decide +kernel
theorem dX3_isOver_1 : decode cX3_isOver 1 = .ok (.getfield 57, 3) := by decide +kernel
theorem dX3_isOver_4 : decode cX3_isOver 4 = .ok (.ifCond .eq 21, 3) := by decide +kernel
theorem dX3_isOver_25 : decode cX3_isOver 25 = .ok (.iconst 0, 1) := by decide +kernel
theorem dX3_isOver_26 : decode cX3_isOver 26 = .ok (.ireturn, 1) := by decide +kernel
theorem dX3_legal_0 : decode cX3_legal 0 = .ok (.aload_n 0, 1) := by decide +kernel
theorem dX3_legal_1 : decode cX3_legal 1 = .ok (.getfield 18, 3) := by decide +kernel
theorem dX3_legal_4 : decode cX3_legal 4 = .ok (.ifCond .ge 5, 3) := by decide +kernel
theorem dX3_legal_7 : decode cX3_legal 7 = .ok (.iconst 0, 1) := by decide +kernel
theorem dX3_legal_8 : decode cX3_legal 8 = .ok (.ireturn, 1) := by decide +kernel
theorem dX3_wonBy_0 : decode cX3_wonBy 0 = .ok (.iconst 0, 1) := by decide +kernel
theorem dX3_wonBy_1 : decode cX3_wonBy 1 = .ok (.istore_n 2, 1) := by decide +kernel
theorem dX3_wonBy_2 : decode cX3_wonBy 2 = .ok (.iconst 0, 1) := by decide +kernel
theorem dX3_wonBy_3 : decode cX3_wonBy 3 = .ok (.istore_n 3, 1) := by decide +kernel
theorem dX3_wonBy_4 : decode cX3_wonBy 4 = .ok (.iload_n 3, 1) := by decide +kernel
theorem dX3_wonBy_5 : decode cX3_wonBy 5 = .ok (.aload_n 0, 1) := by decide +kernel
theorem dX3_wonBy_6 : decode cX3_wonBy 6 = .ok (.getfield 61, 3) := by decide +kernel
theorem dX3_wonBy_9 : decode cX3_wonBy 9 = .ok (.iconst 4, 1) := by decide +kernel
theorem dX3_wonBy_10 : decode cX3_wonBy 10 = .ok (.idiv, 1) := by decide +kernel
theorem dX3_wonBy_11 : decode cX3_wonBy 11 = .ok (.if_icmp .ge 29, 3) := by decide +kernel
theorem dX3_wonBy_40 : decode cX3_wonBy 40 = .ok (.iload_n 2, 1) := by decide +kernel
theorem dX3_wonBy_41 : decode cX3_wonBy 41 = .ok (.ireturn, 1) := by decide +kernel
theorem dX7_handsWithOneCard_0 : decode cX7_handsWithOneCard 0 = .ok (.aload_n 0, 1) := by decide +kernel
theorem dX7_handsWithOneCard_1 : decode cX7_handsWithOneCard 1 = .ok (.getfield 9, 3) := by decide +kernel
theorem dX7_handsWithOneCard_4 : decode cX7_handsWithOneCard 4 = .ok (.getfield 19, 3) := by decide +kernel
theorem dX7_handsWithOneCard_7 : decode cX7_handsWithOneCard 7 = .ok (.ifCond .le 29, 3) := by decide +kernel
theorem dX7_handsWithOneCard_10 : decode cX7_handsWithOneCard 10 = .ok (.aload_n 0, 1) := by decide +kernel
theorem dX7_handsWithOneCard_11 : decode cX7_handsWithOneCard 11 = .ok (.getfield 9, 3) := by decide +kernel
theorem dX7_handsWithOneCard_14 : decode cX7_handsWithOneCard 14 = .ok (.getfield 25, 3) := by decide +kernel
theorem dX7_handsWithOneCard_17 : decode cX7_handsWithOneCard 17 = .ok (.aload_n 0, 1) := by decide +kernel
theorem dX7_handsWithOneCard_18 : decode cX7_handsWithOneCard 18 = .ok (.getfield 9, 3) := by decide +kernel
theorem dX7_handsWithOneCard_21 : decode cX7_handsWithOneCard 21 = .ok (.getfield 28, 3) := by decide +kernel
theorem dX7_handsWithOneCard_24 : decode cX7_handsWithOneCard 24 = .ok (.imul, 1) := by decide +kernel
theorem dX7_handsWithOneCard_25 : decode cX7_handsWithOneCard 25 = .ok (.aload_n 0, 1) := by decide +kernel
theorem dX7_handsWithOneCard_26 : decode cX7_handsWithOneCard 26 = .ok (.getfield 9, 3) := by decide +kernel
theorem dX7_handsWithOneCard_29 : decode cX7_handsWithOneCard 29 = .ok (.getfield 19, 3) := by decide +kernel
theorem dX7_handsWithOneCard_32 : decode cX7_handsWithOneCard 32 = .ok (.idiv, 1) := by decide +kernel
theorem dX7_handsWithOneCard_33 : decode cX7_handsWithOneCard 33 = .ok (.goto 4, 3) := by decide +kernel
theorem dX7_handsWithOneCard_37 : decode cX7_handsWithOneCard 37 = .ok (.ireturn, 1) := by decide +kernel
theorem dX7_untouched_0 : decode cX7_untouched 0 = .ok (.iconst 0, 1) := by decide +kernel
theorem dX7_untouched_1 : decode cX7_untouched 1 = .ok (.istore_n 1, 1) := by decide +kernel
theorem dX7_untouched_2 : decode cX7_untouched 2 = .ok (.iconst 0, 1) := by decide +kernel
theorem dX7_untouched_3 : decode cX7_untouched 3 = .ok (.istore_n 2, 1) := by decide +kernel
theorem dX7_untouched_4 : decode cX7_untouched 4 = .ok (.iload_n 2, 1) := by decide +kernel
theorem dX7_untouched_5 : decode cX7_untouched 5 = .ok (.aload_n 0, 1) := by decide +kernel
theorem dX7_untouched_6 : decode cX7_untouched 6 = .ok (.getfield 9, 3) := by decide +kernel
theorem dX7_untouched_9 : decode cX7_untouched 9 = .ok (.getfield 19, 3) := by decide +kernel
theorem dX7_untouched_12 : decode cX7_untouched 12 = .ok (.if_icmp .ge 67, 3) := by decide +kernel
theorem dX7_untouched_15 : decode cX7_untouched 15 = .ok (.iconst 0, 1) := by decide +kernel
theorem dX7_untouched_16 : decode cX7_untouched 16 = .ok (.istore_n 3, 1) := by decide +kernel
theorem dX7_untouched_17 : decode cX7_untouched 17 = .ok (.iconst 0, 1) := by decide +kernel
theorem dX7_untouched_18 : decode cX7_untouched 18 = .ok (.istore 4, 2) := by decide +kernel
theorem dX7_untouched_20 : decode cX7_untouched 20 = .ok (.iload 4, 2) := by decide +kernel
theorem dX7_untouched_22 : decode cX7_untouched 22 = .ok (.aload_n 0, 1) := by decide +kernel
theorem dX7_untouched_23 : decode cX7_untouched 23 = .ok (.getfield 9, 3) := by decide +kernel
theorem dX7_untouched_26 : decode cX7_untouched 26 = .ok (.getfield 59, 3) := by decide +kernel
theorem dX7_untouched_29 : decode cX7_untouched 29 = .ok (.if_icmp .ge 29, 3) := by decide +kernel
theorem dX7_untouched_58 : decode cX7_untouched 58 = .ok (.iload_n 1, 1) := by decide +kernel
theorem dX7_untouched_59 : decode cX7_untouched 59 = .ok (.iload_n 3, 1) := by decide +kernel
theorem dX7_untouched_60 : decode cX7_untouched 60 = .ok (.ifCond .eq 7, 3) := by decide +kernel
theorem dX7_untouched_67 : decode cX7_untouched 67 = .ok (.aload_n 0, 1) := by decide +kernel
theorem dX7_untouched_68 : decode cX7_untouched 68 = .ok (.invokevirtual 48, 3) := by decide +kernel
theorem dX7_untouched_71 : decode cX7_untouched 71 = .ok (.iadd, 1) := by decide +kernel
theorem dX7_untouched_72 : decode cX7_untouched 72 = .ok (.istore_n 1, 1) := by decide +kernel
theorem dX7_untouched_73 : decode cX7_untouched 73 = .ok (.iinc 2 1, 3) := by decide +kernel
theorem dX7_untouched_76 : decode cX7_untouched 76 = .ok (.goto (-72), 3) := by decide +kernel
theorem dX7_untouched_79 : decode cX7_untouched 79 = .ok (.iload_n 1, 1) := by decide +kernel
theorem dX7_untouched_80 : decode cX7_untouched 80 = .ok (.ireturn, 1) := by decide +kernel
