/-! the tables are the class's -/
set_option maxRecDepth 100000 in
theorem ok_0 : okM PRG M_0 := okM_of (by decide +kernel) (wu_mem (i := 1030) (by rfl) rfl) rfl (by decide +kernel)
set_option maxRecDepth 100000 in
theorem ok_1 : okM PRG M_1 := okM_of (by decide +kernel) (wu_mem (i := 705) (by rfl) rfl) rfl (by decide +kernel)
set_option maxRecDepth 100000 in
theorem ok_2 : okM PRG M_2 := okM_of (by decide +kernel) (wu_mem (i := 945) (by rfl) rfl) rfl (by decide +kernel)
set_option maxRecDepth 100000 in
theorem ok_3 : okM PRG M_3 := okM_of (by decide +kernel) (wu_mem (i := 899) (by rfl) rfl) rfl (by decide +kernel)
set_option maxRecDepth 100000 in
theorem ok_4 : okM PRG M_4 := okM_of (by decide +kernel) (wu_mem (i := 884) (by rfl) rfl) rfl (by decide +kernel)
set_option maxRecDepth 100000 in
theorem ok_5 : okM PRG M_5 := okM_of (by decide +kernel) (wu_mem (i := 1421) (by rfl) rfl) rfl (by decide +kernel)
set_option maxRecDepth 100000 in
theorem ok_6 : okM PRG M_6 := okM_of (by decide +kernel) (wu_mem (i := 1432) (by rfl) rfl) rfl (by decide +kernel)
set_option maxRecDepth 100000 in
theorem ok_7 : okM PRG M_7 := okM_of (by decide +kernel) (wu_mem (i := 1444) (by rfl) rfl) rfl (by decide +kernel)
set_option maxRecDepth 100000 in
theorem ok_8 : okM PRG M_8 := okM_of (by decide +kernel) (wu_mem (i := 1429) (by rfl) rfl) rfl (by decide +kernel)
set_option maxRecDepth 100000 in
theorem ok_9 : okM PRG M_9 := okM_of (by decide +kernel) (wu_mem (i := 1006) (by rfl) rfl) rfl (by decide +kernel)
set_option maxRecDepth 100000 in
theorem ok_10 : okM PRG M_10 := okM_of (by decide +kernel) (wu_mem (i := 1014) (by rfl) rfl) rfl (by decide +kernel)
set_option maxRecDepth 100000 in
theorem ok_11 : okM PRG M_11 := okM_of (by decide +kernel) (wu_mem (i := 1027) (by rfl) rfl) rfl (by decide +kernel)
set_option maxRecDepth 100000 in
theorem ok_12 : okM PRG M_12 := okM_of (by decide +kernel) (wu_mem (i := 1023) (by rfl) rfl) rfl (by decide +kernel)
set_option maxRecDepth 100000 in
theorem ok_13 : okM PRG M_13 := okM_of (by decide +kernel) (wu_mem (i := 1036) (by rfl) rfl) rfl (by decide +kernel)
set_option maxRecDepth 100000 in
theorem ok_14 : okM PRG M_14 := okM_of (by decide +kernel) (wu_mem (i := 1109) (by rfl) rfl) rfl (by decide +kernel)
set_option maxRecDepth 100000 in
theorem ok_15 : okM PRG M_15 := okM_of (by decide +kernel) (wu_mem (i := 1116) (by rfl) rfl) rfl (by decide +kernel)
set_option maxRecDepth 100000 in
theorem ok_16 : okM PRG M_16 := okM_of (by decide +kernel) (wu_mem (i := 1105) (by rfl) rfl) rfl (by decide +kernel)
set_option maxRecDepth 100000 in
theorem ok_17 : okM PRG M_17 := okM_of (by decide +kernel) (wu_mem (i := 1120) (by rfl) rfl) rfl (by decide +kernel)
set_option maxRecDepth 100000 in
theorem ok_18 : okM PRG M_18 := okM_of (by decide +kernel) (wu_mem (i := 938) (by rfl) rfl) rfl (by decide +kernel)
set_option maxRecDepth 100000 in
theorem ok_19 : okM PRG M_19 := okM_of (by decide +kernel) (wu_mem (i := 1134) (by rfl) rfl) rfl (by decide +kernel)
set_option maxRecDepth 100000 in
theorem ok_20 : okM PRG M_20 := okM_of (by decide +kernel) (wu_mem (i := 1129) (by rfl) rfl) rfl (by decide +kernel)
set_option maxRecDepth 100000 in
theorem ok_21 : okM PRG M_21 := okM_of (by decide +kernel) (wu_mem (i := 1124) (by rfl) rfl) rfl (by decide +kernel)
set_option maxRecDepth 100000 in
theorem ok_22 : okM PRG M_22 := okM_of (by decide +kernel) (wu_mem (i := 1146) (by rfl) rfl) rfl (by decide +kernel)
set_option maxRecDepth 100000 in
theorem ok_23 : okM PRG M_23 := okM_of (by decide +kernel) (wu_mem (i := 1154) (by rfl) rfl) rfl (by decide +kernel)
set_option maxRecDepth 100000 in
theorem ok_24 : okM PRG M_24 := okM_of (by decide +kernel) (wu_mem (i := 1166) (by rfl) rfl) rfl (by decide +kernel)
set_option maxRecDepth 100000 in
theorem ok_25 : okM PRG M_25 := okM_of (by decide +kernel) (wu_mem (i := 1170) (by rfl) rfl) rfl (by decide +kernel)
set_option maxRecDepth 100000 in
theorem ok_26 : okM PRG M_26 := okM_of (by decide +kernel) (wu_mem (i := 1162) (by rfl) rfl) rfl (by decide +kernel)
set_option maxRecDepth 100000 in
theorem ok_27 : okM PRG M_27 := okM_of (by decide +kernel) (wu_mem (i := 896) (by rfl) rfl) rfl (by decide +kernel)
set_option maxRecDepth 100000 in
theorem ok_28 : okM PRG M_28 := okM_of (by decide +kernel) (wu_mem (i := 917) (by rfl) rfl) rfl (by decide +kernel)
set_option maxRecDepth 100000 in
theorem ok_29 : okM PRG M_29 := okM_of (by decide +kernel) (wu_mem (i := 914) (by rfl) rfl) rfl (by decide +kernel)
set_option maxRecDepth 100000 in
theorem ok_30 : okM PRG M_30 := okM_of (by decide +kernel) (wu_mem (i := 922) (by rfl) rfl) rfl (by decide +kernel)
set_option maxRecDepth 100000 in
theorem ok_31 : okM PRG M_31 := okM_of (by decide +kernel) (wu_mem (i := 930) (by rfl) rfl) rfl (by decide +kernel)
set_option maxRecDepth 100000 in
theorem ok_32 : okM PRG M_32 := okM_of (by decide +kernel) (wu_mem (i := 926) (by rfl) rfl) rfl (by decide +kernel)
set_option maxRecDepth 100000 in
theorem ok_33 : okM PRG M_33 := okM_of (by decide +kernel) (wu_mem (i := 911) (by rfl) rfl) rfl (by decide +kernel)
set_option maxRecDepth 100000 in
theorem ok_34 : okM PRG M_34 := okM_of (by decide +kernel) (wu_mem (i := 978) (by rfl) rfl) rfl (by decide +kernel)
set_option maxRecDepth 100000 in
theorem ok_35 : okM PRG M_35 := okM_of (by decide +kernel) (wu_mem (i := 974) (by rfl) rfl) rfl (by decide +kernel)
set_option maxRecDepth 100000 in
theorem ok_36 : okM PRG M_36 := okM_of (by decide +kernel) (wu_mem (i := 1002) (by rfl) rfl) rfl (by decide +kernel)
set_option maxRecDepth 100000 in
theorem ok_37 : okM PRG M_37 := okM_of (by decide +kernel) (wu_mem (i := 998) (by rfl) rfl) rfl (by decide +kernel)
set_option maxRecDepth 100000 in
theorem ok_38 : okM PRG M_38 := okM_of (by decide +kernel) (wu_mem (i := 1019) (by rfl) rfl) rfl (by decide +kernel)
set_option maxRecDepth 100000 in
theorem ok_39 : okM PRG M_39 := okM_of (by decide +kernel) (wu_mem (i := 1010) (by rfl) rfl) rfl (by decide +kernel)
set_option maxRecDepth 100000 in
theorem ok_40 : okM PRG M_40 := okM_of (by decide +kernel) (wu_mem (i := 1363) (by rfl) rfl) rfl (by decide +kernel)
set_option maxRecDepth 100000 in
theorem ok_41 : okM PRG M_41 := okM_of (by decide +kernel) (wu_mem (i := 1372) (by rfl) rfl) rfl (by decide +kernel)
set_option maxRecDepth 100000 in
theorem ok_42 : okM PRG M_42 := okM_of (by decide +kernel) (wu_mem (i := 1275) (by rfl) rfl) rfl (by decide +kernel)
set_option maxRecDepth 100000 in
theorem ok_43 : okM PRG M_43 := okM_of (by decide +kernel) (wu_mem (i := 1400) (by rfl) rfl) rfl (by decide +kernel)
set_option maxRecDepth 100000 in
theorem ok_44 : okM PRG M_44 := okM_of (by decide +kernel) (wu_mem (i := 1279) (by rfl) rfl) rfl (by decide +kernel)
set_option maxRecDepth 100000 in
theorem ok_45 : okM PRG M_45 := okM_of (by decide +kernel) (wu_mem (i := 1040) (by rfl) rfl) rfl (by decide +kernel)
set_option maxRecDepth 100000 in
theorem ok_46 : okM PRG M_46 := okM_of (by decide +kernel) (wu_mem (i := 1192) (by rfl) rfl) rfl (by decide +kernel)
set_option maxRecDepth 100000 in
theorem ok_47 : okM PRG M_47 := okM_of (by decide +kernel) (wu_mem (i := 1187) (by rfl) rfl) rfl (by decide +kernel)
set_option maxRecDepth 100000 in
theorem ok_48 : okM PRG M_48 := okM_of (by decide +kernel) (wu_mem (i := 1227) (by rfl) rfl) rfl (by decide +kernel)
set_option maxRecDepth 100000 in
theorem ok_49 : okM PRG M_49 := okM_of (by decide +kernel) (wu_mem (i := 1218) (by rfl) rfl) rfl (by decide +kernel)
set_option maxRecDepth 100000 in
theorem ok_50 : okM PRG M_50 := okM_of (by decide +kernel) (wu_mem (i := 1214) (by rfl) rfl) rfl (by decide +kernel)
set_option maxRecDepth 100000 in
theorem ok_51 : okM PRG M_51 := okM_of (by decide +kernel) (wu_mem (i := 1209) (by rfl) rfl) rfl (by decide +kernel)
set_option maxRecDepth 100000 in
theorem ok_52 : okM PRG M_52 := okM_of (by decide +kernel) (wu_mem (i := 1233) (by rfl) rfl) rfl (by decide +kernel)
set_option maxRecDepth 100000 in
theorem ok_53 : okM PRG M_53 := okM_of (by decide +kernel) (wu_mem (i := 1205) (by rfl) rfl) rfl (by decide +kernel)
set_option maxRecDepth 100000 in
theorem ok_54 : okM PRG M_54 := okM_of (by decide +kernel) (wu_mem (i := 1223) (by rfl) rfl) rfl (by decide +kernel)
set_option maxRecDepth 100000 in
theorem ok_55 : okM PRG M_55 := okM_of (by decide +kernel) (wu_mem (i := 1254) (by rfl) rfl) rfl (by decide +kernel)
set_option maxRecDepth 100000 in
theorem ok_56 : okM PRG M_56 := okM_of (by decide +kernel) (wu_mem (i := 1291) (by rfl) rfl) rfl (by decide +kernel)
set_option maxRecDepth 100000 in
theorem ok_57 : okM PRG M_57 := okM_of (by decide +kernel) (wu_mem (i := 1271) (by rfl) rfl) rfl (by decide +kernel)
set_option maxRecDepth 100000 in
theorem ok_58 : okM PRG M_58 := okM_of (by decide +kernel) (wu_mem (i := 1299) (by rfl) rfl) rfl (by decide +kernel)
set_option maxRecDepth 100000 in
theorem ok_59 : okM PRG M_59 := okM_of (by decide +kernel) (wu_mem (i := 1295) (by rfl) rfl) rfl (by decide +kernel)
