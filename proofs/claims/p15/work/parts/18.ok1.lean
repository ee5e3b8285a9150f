/-! the tables are the class's -/
set_option maxRecDepth 100000 in
theorem ok_60 : okM PRG M_60 := okM_of (by decide +kernel) (wu_mem (i := 1313) (by rfl) rfl) rfl (by decide +kernel)
set_option maxRecDepth 100000 in
theorem ok_61 : okM PRG M_61 := okM_of (by decide +kernel) (wu_mem (i := 1391) (by rfl) rfl) rfl (by decide +kernel)
set_option maxRecDepth 100000 in
theorem ok_62 : okM PRG M_62 := okM_of (by decide +kernel) (wu_mem (i := 1044) (by rfl) rfl) rfl (by decide +kernel)
set_option maxRecDepth 100000 in
theorem ok_63 : okM PRG M_63 := okM_of (by decide +kernel) (wu_mem (i := 994) (by rfl) rfl) rfl (by decide +kernel)
set_option maxRecDepth 100000 in
theorem ok_64 : okM PRG M_64 := okM_of (by decide +kernel) (wu_mem (i := 1072) (by rfl) rfl) rfl (by decide +kernel)
set_option maxRecDepth 100000 in
theorem ok_65 : okM PRG M_65 := okM_of (by decide +kernel) (wu_mem (i := 1386) (by rfl) rfl) rfl (by decide +kernel)
set_option maxRecDepth 100000 in
theorem ok_66 : okM PRG M_66 := okM_of (by decide +kernel) (wu_mem (i := 880) (by rfl) rfl) rfl (by decide +kernel)
set_option maxRecDepth 100000 in
theorem ok_67 : okM PRG M_67 := okM_of (by decide +kernel) (wu_mem (i := 1354) (by rfl) rfl) rfl (by decide +kernel)
set_option maxRecDepth 100000 in
theorem ok_68 : okM PRG M_68 := okM_of (by decide +kernel) (wu_mem (i := 1417) (by rfl) rfl) rfl (by decide +kernel)
set_option maxRecDepth 100000 in
theorem ok_69 : okM PRG M_69 := okM_of (by decide +kernel) (wu_mem (i := 1056) (by rfl) rfl) rfl (by decide +kernel)
set_option maxRecDepth 100000 in
theorem ok_70 : okM PRG M_70 := okM_of (by decide +kernel) (wu_mem (i := 1064) (by rfl) rfl) rfl (by decide +kernel)
set_option maxRecDepth 100000 in
theorem ok_71 : okM PRG M_71 := okM_of (by decide +kernel) (wu_mem (i := 694) (by rfl) rfl) rfl (by decide +kernel)
set_option maxRecDepth 100000 in
theorem ok_72 : okM PRG M_72 := okM_of (by decide +kernel) (wu_mem (i := 868) (by rfl) rfl) rfl (by decide +kernel)
set_option maxRecDepth 100000 in
theorem ok_73 : okM PRG M_73 := okM_of (by decide +kernel) (wu_mem (i := 872) (by rfl) rfl) rfl (by decide +kernel)
set_option maxRecDepth 100000 in
theorem ok_74 : okM PRG M_74 := okM_of (by decide +kernel) (wu_mem (i := 702) (by rfl) rfl) rfl (by decide +kernel)
set_option maxRecDepth 100000 in
theorem ok_75 : okM PRG M_75 := okM_of (by decide +kernel) (wu_mem (i := 698) (by rfl) rfl) rfl (by decide +kernel)
set_option maxRecDepth 100000 in
theorem ok_76 : okM PRG M_76 := okM_of (by decide +kernel) (wu_mem (i := 888) (by rfl) rfl) rfl (by decide +kernel)
set_option maxRecDepth 100000 in
theorem ok_77 : okM PRG M_77 := okM_of (by decide +kernel) (wu_mem (i := 1196) (by rfl) rfl) rfl (by decide +kernel)
set_option maxRecDepth 100000 in
theorem ok_78 : okM PRG M_78 := okM_of (by decide +kernel) (wu_mem (i := 1183) (by rfl) rfl) rfl (by decide +kernel)
set_option maxRecDepth 100000 in
theorem ok_79 : okM PRG M_79 := okM_of (by decide +kernel) (wu_mem (i := 1201) (by rfl) rfl) rfl (by decide +kernel)
set_option maxRecDepth 100000 in
theorem ok_80 : okM PRG M_80 := okM_of (by decide +kernel) (wu_mem (i := 1179) (by rfl) rfl) rfl (by decide +kernel)
set_option maxRecDepth 100000 in
theorem ok_81 : okM PRG M_81 := okM_of (by decide +kernel) (wu_mem (i := 1345) (by rfl) rfl) rfl (by decide +kernel)
set_option maxRecDepth 100000 in
theorem ok_82 : okM PRG M_82 := okM_of (by decide +kernel) (wu_mem (i := 1250) (by rfl) rfl) rfl (by decide +kernel)
set_option maxRecDepth 100000 in
theorem ok_83 : okM PRG M_83 := okM_of (by decide +kernel) (wu_mem (i := 1246) (by rfl) rfl) rfl (by decide +kernel)
set_option maxRecDepth 100000 in
theorem ok_84 : okM PRG M_84 := okM_of (by decide +kernel) (wu_mem (i := 1242) (by rfl) rfl) rfl (by decide +kernel)
set_option maxRecDepth 100000 in
theorem ok_85 : okM PRG M_85 := okM_of (by decide +kernel) (wu_mem (i := 1462) (by rfl) rfl) rfl (by decide +kernel)
set_option maxRecDepth 100000 in
theorem ok_86 : okM PRG M_86 := okM_of (by decide +kernel) (wu_mem (i := 1456) (by rfl) rfl) rfl (by decide +kernel)
set_option maxRecDepth 100000 in
theorem ok_87 : okM PRG M_87 := okM_of (by decide +kernel) (wu_mem (i := 1452) (by rfl) rfl) rfl (by decide +kernel)
set_option maxRecDepth 100000 in
theorem ok_88 : okM PRG M_88 := okM_of (by decide +kernel) (wu_mem (i := 1466) (by rfl) rfl) rfl (by decide +kernel)
set_option maxRecDepth 100000 in
theorem ok_89 : okM PRG M_89 := okM_of (by decide +kernel) (wu_mem (i := 1475) (by rfl) rfl) rfl (by decide +kernel)
set_option maxRecDepth 100000 in
theorem ok_90 : okM PRG M_90 := okM_of (by decide +kernel) (wu_mem (i := 1483) (by rfl) rfl) rfl (by decide +kernel)
set_option maxRecDepth 100000 in
theorem ok_91 : okM PRG M_91 := okM_of (by decide +kernel) (wu_mem (i := 776) (by rfl) rfl) rfl (by decide +kernel)
set_option maxRecDepth 100000 in
theorem ok_92 : okM PRG M_92 := okM_of (by decide +kernel) (wu_mem (i := 784) (by rfl) rfl) rfl (by decide +kernel)
set_option maxRecDepth 100000 in
theorem ok_93 : okM PRG M_93 := okM_of (by decide +kernel) (wu_mem (i := 788) (by rfl) rfl) rfl (by decide +kernel)
set_option maxRecDepth 100000 in
theorem ok_94 : okM PRG M_94 := okM_of (by decide +kernel) (wu_mem (i := 780) (by rfl) rfl) rfl (by decide +kernel)
set_option maxRecDepth 100000 in
theorem ok_95 : okM PRG M_95 := okM_of (by decide +kernel) (wu_mem (i := 791) (by rfl) rfl) rfl (by decide +kernel)
set_option maxRecDepth 100000 in
theorem ok_96 : okM PRG M_96 := okM_of (by decide +kernel) (wu_mem (i := 795) (by rfl) rfl) rfl (by decide +kernel)
set_option maxRecDepth 100000 in
theorem ok_97 : okM PRG M_97 := okM_of (by decide +kernel) (wu_mem (i := 802) (by rfl) rfl) rfl (by decide +kernel)
set_option maxRecDepth 100000 in
theorem ok_98 : okM PRG M_98 := okM_of (by decide +kernel) (wu_mem (i := 799) (by rfl) rfl) rfl (by decide +kernel)
set_option maxRecDepth 100000 in
theorem ok_99 : okM PRG M_99 := okM_of (by decide +kernel) (wu_mem (i := 773) (by rfl) rfl) rfl (by decide +kernel)
set_option maxRecDepth 100000 in
theorem ok_100 : okM PRG M_100 := okM_of (by decide +kernel) (wu_mem (i := 769) (by rfl) rfl) rfl (by decide +kernel)
set_option maxRecDepth 100000 in
theorem ok_101 : okM PRG M_101 := okM_of (by decide +kernel) (wu_mem (i := 814) (by rfl) rfl) rfl (by decide +kernel)
set_option maxRecDepth 100000 in
theorem ok_102 : okM PRG M_102 := okM_of (by decide +kernel) (wu_mem (i := 822) (by rfl) rfl) rfl (by decide +kernel)
set_option maxRecDepth 100000 in
theorem ok_103 : okM PRG M_103 := okM_of (by decide +kernel) (wu_mem (i := 818) (by rfl) rfl) rfl (by decide +kernel)
set_option maxRecDepth 100000 in
theorem ok_104 : okM PRG M_104 := okM_of (by decide +kernel) (wu_mem (i := 810) (by rfl) rfl) rfl (by decide +kernel)
set_option maxRecDepth 100000 in
theorem ok_105 : okM PRG M_105 := okM_of (by decide +kernel) (wu_mem (i := 826) (by rfl) rfl) rfl (by decide +kernel)
set_option maxRecDepth 100000 in
theorem ok_106 : okM PRG M_106 := okM_of (by decide +kernel) (wu_mem (i := 830) (by rfl) rfl) rfl (by decide +kernel)
set_option maxRecDepth 100000 in
theorem ok_107 : okM PRG M_107 := okM_of (by decide +kernel) (wu_mem (i := 838) (by rfl) rfl) rfl (by decide +kernel)
set_option maxRecDepth 100000 in
theorem ok_108 : okM PRG M_108 := okM_of (by decide +kernel) (wu_mem (i := 864) (by rfl) rfl) rfl (by decide +kernel)
set_option maxRecDepth 100000 in
theorem ok_109 : okM PRG M_109 := okM_of (by decide +kernel) (wu_mem (i := 860) (by rfl) rfl) rfl (by decide +kernel)
set_option maxRecDepth 100000 in
theorem ok_110 : okM PRG M_110 := okM_of (by decide +kernel) (wu_mem (i := 856) (by rfl) rfl) rfl (by decide +kernel)
set_option maxRecDepth 100000 in
theorem ok_111 : okM PRG M_111 := okM_of (by decide +kernel) (wu_mem (i := 852) (by rfl) rfl) rfl (by decide +kernel)
set_option maxRecDepth 100000 in
theorem ok_112 : okM PRG M_112 := okM_of (by decide +kernel) (wu_mem (i := 848) (by rfl) rfl) rfl (by decide +kernel)
set_option maxRecDepth 100000 in
theorem ok_113 : okM PRG M_113 := okM_of (by decide +kernel) (wu_mem (i := 834) (by rfl) rfl) rfl (by decide +kernel)
set_option maxRecDepth 100000 in
theorem ok_114 : okM PRG M_114 := okM_of (by decide +kernel) (wu_mem (i := 806) (by rfl) rfl) rfl (by decide +kernel)
set_option maxRecDepth 100000 in
theorem ok_115 : okM PRG M_115 := okM_of (by decide +kernel) (wu_mem (i := 892) (by rfl) rfl) rfl (by decide +kernel)
set_option maxRecDepth 100000 in
theorem ok_116 : okM PRG M_116 := okM_of (by decide +kernel) (wu_mem (i := 1335) (by rfl) rfl) rfl (by decide +kernel)
set_option maxRecDepth 100000 in
theorem ok_117 : okM PRG M_117 := okM_of (by decide +kernel) (wu_mem (i := 1307) (by rfl) rfl) rfl (by decide +kernel)
set_option maxRecDepth 100000 in
theorem ok_118 : okM PRG M_118 := okM_of (by decide +kernel) (wu_mem (i := 1331) (by rfl) rfl) rfl (by decide +kernel)
set_option maxRecDepth 100000 in
theorem ok_119 : okM PRG M_119 := okM_of (by decide +kernel) (wu_mem (i := 1327) (by rfl) rfl) rfl (by decide +kernel)
