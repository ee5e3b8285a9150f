/-! the tables are the class's -/
set_option maxRecDepth 100000 in
theorem ok_120 : okM PRG M_120 := okM_of (by decide +kernel) (wu_mem (i := 757) (by rfl) rfl) rfl (by decide +kernel)
set_option maxRecDepth 100000 in
theorem ok_121 : okM PRG M_121 := okM_of (by decide +kernel) (wu_mem (i := 753) (by rfl) rfl) rfl (by decide +kernel)
set_option maxRecDepth 100000 in
theorem ok_122 : okM PRG M_122 := okM_of (by decide +kernel) (wu_mem (i := 761) (by rfl) rfl) rfl (by decide +kernel)
set_option maxRecDepth 100000 in
theorem ok_123 : okM PRG M_123 := okM_of (by decide +kernel) (wu_mem (i := 876) (by rfl) rfl) rfl (by decide +kernel)
set_option maxRecDepth 100000 in
theorem ok_124 : okM PRG M_124 := okM_of (by decide +kernel) (wu_mem (i := 765) (by rfl) rfl) rfl (by decide +kernel)
set_option maxRecDepth 100000 in
theorem ok_125 : okM PRG M_125 := okM_of (by decide +kernel) (wu_mem (i := 903) (by rfl) rfl) rfl (by decide +kernel)
set_option maxRecDepth 100000 in
theorem ok_126 : okM PRG M_126 := okM_of (by decide +kernel) (wu_mem (i := 907) (by rfl) rfl) rfl (by decide +kernel)
set_option maxRecDepth 100000 in
theorem ok_127 : okM PRG M_127 := okM_of (by decide +kernel) (wu_mem (i := 942) (by rfl) rfl) rfl (by decide +kernel)
set_option maxRecDepth 100000 in
theorem ok_128 : okM PRG M_128 := okM_of (by decide +kernel) (wu_mem (i := 934) (by rfl) rfl) rfl (by decide +kernel)
set_option maxRecDepth 100000 in
theorem ok_129 : okM PRG M_129 := okM_of (by decide +kernel) (wu_mem (i := 957) (by rfl) rfl) rfl (by decide +kernel)
set_option maxRecDepth 100000 in
theorem ok_130 : okM PRG M_130 := okM_of (by decide +kernel) (wu_mem (i := 953) (by rfl) rfl) rfl (by decide +kernel)
set_option maxRecDepth 100000 in
theorem ok_131 : okM PRG M_131 := okM_of (by decide +kernel) (wu_mem (i := 962) (by rfl) rfl) rfl (by decide +kernel)
set_option maxRecDepth 100000 in
theorem ok_132 : okM PRG M_132 := okM_of (by decide +kernel) (wu_mem (i := 966) (by rfl) rfl) rfl (by decide +kernel)
set_option maxRecDepth 100000 in
theorem ok_133 : okM PRG M_133 := okM_of (by decide +kernel) (wu_mem (i := 970) (by rfl) rfl) rfl (by decide +kernel)
set_option maxRecDepth 100000 in
theorem ok_134 : okM PRG M_134 := okM_of (by decide +kernel) (wu_mem (i := 990) (by rfl) rfl) rfl (by decide +kernel)
set_option maxRecDepth 100000 in
theorem ok_135 : okM PRG M_135 := okM_of (by decide +kernel) (wu_mem (i := 986) (by rfl) rfl) rfl (by decide +kernel)
set_option maxRecDepth 100000 in
theorem ok_136 : okM PRG M_136 := okM_of (by decide +kernel) (wu_mem (i := 982) (by rfl) rfl) rfl (by decide +kernel)
set_option maxRecDepth 100000 in
theorem ok_137 : okM PRG M_137 := okM_of (by decide +kernel) (wu_mem (i := 1048) (by rfl) rfl) rfl (by decide +kernel)
set_option maxRecDepth 100000 in
theorem ok_138 : okM PRG M_138 := okM_of (by decide +kernel) (wu_mem (i := 1052) (by rfl) rfl) rfl (by decide +kernel)
set_option maxRecDepth 100000 in
theorem ok_139 : okM PRG M_139 := okM_of (by decide +kernel) (wu_mem (i := 1060) (by rfl) rfl) rfl (by decide +kernel)
set_option maxRecDepth 100000 in
theorem ok_140 : okM PRG M_140 := okM_of (by decide +kernel) (wu_mem (i := 1068) (by rfl) rfl) rfl (by decide +kernel)
set_option maxRecDepth 100000 in
theorem ok_141 : okM PRG M_141 := okM_of (by decide +kernel) (wu_mem (i := 1076) (by rfl) rfl) rfl (by decide +kernel)
set_option maxRecDepth 100000 in
theorem ok_142 : okM PRG M_142 := okM_of (by decide +kernel) (wu_mem (i := 1080) (by rfl) rfl) rfl (by decide +kernel)
set_option maxRecDepth 100000 in
theorem ok_143 : okM PRG M_143 := okM_of (by decide +kernel) (wu_mem (i := 1089) (by rfl) rfl) rfl (by decide +kernel)
set_option maxRecDepth 100000 in
theorem ok_144 : okM PRG M_144 := okM_of (by decide +kernel) (wu_mem (i := 1085) (by rfl) rfl) rfl (by decide +kernel)
set_option maxRecDepth 100000 in
theorem ok_145 : okM PRG M_145 := okM_of (by decide +kernel) (wu_mem (i := 1097) (by rfl) rfl) rfl (by decide +kernel)
set_option maxRecDepth 100000 in
theorem ok_146 : okM PRG M_146 := okM_of (by decide +kernel) (wu_mem (i := 1101) (by rfl) rfl) rfl (by decide +kernel)
set_option maxRecDepth 100000 in
theorem ok_147 : okM PRG M_147 := okM_of (by decide +kernel) (wu_mem (i := 1093) (by rfl) rfl) rfl (by decide +kernel)
set_option maxRecDepth 100000 in
theorem ok_148 : okM PRG M_148 := okM_of (by decide +kernel) (wu_mem (i := 1138) (by rfl) rfl) rfl (by decide +kernel)
set_option maxRecDepth 100000 in
theorem ok_149 : okM PRG M_149 := okM_of (by decide +kernel) (wu_mem (i := 1142) (by rfl) rfl) rfl (by decide +kernel)
set_option maxRecDepth 100000 in
theorem ok_150 : okM PRG M_150 := okM_of (by decide +kernel) (wu_mem (i := 1150) (by rfl) rfl) rfl (by decide +kernel)
set_option maxRecDepth 100000 in
theorem ok_151 : okM PRG M_151 := okM_of (by decide +kernel) (wu_mem (i := 1158) (by rfl) rfl) rfl (by decide +kernel)
set_option maxRecDepth 100000 in
theorem ok_152 : okM PRG M_152 := okM_of (by decide +kernel) (wu_mem (i := 1175) (by rfl) rfl) rfl (by decide +kernel)
set_option maxRecDepth 100000 in
theorem ok_153 : okM PRG M_153 := okM_of (by decide +kernel) (wu_mem (i := 1238) (by rfl) rfl) rfl (by decide +kernel)
set_option maxRecDepth 100000 in
theorem ok_154 : okM PRG M_154 := okM_of (by decide +kernel) (wu_mem (i := 1262) (by rfl) rfl) rfl (by decide +kernel)
set_option maxRecDepth 100000 in
theorem ok_155 : okM PRG M_155 := okM_of (by decide +kernel) (wu_mem (i := 1266) (by rfl) rfl) rfl (by decide +kernel)
set_option maxRecDepth 100000 in
theorem ok_156 : okM PRG M_156 := okM_of (by decide +kernel) (wu_mem (i := 1258) (by rfl) rfl) rfl (by decide +kernel)
set_option maxRecDepth 100000 in
theorem ok_157 : okM PRG M_157 := okM_of (by decide +kernel) (wu_mem (i := 1303) (by rfl) rfl) rfl (by decide +kernel)
set_option maxRecDepth 100000 in
theorem ok_158 : okM PRG M_158 := okM_of (by decide +kernel) (wu_mem (i := 1318) (by rfl) rfl) rfl (by decide +kernel)
set_option maxRecDepth 100000 in
theorem ok_159 : okM PRG M_159 := okM_of (by decide +kernel) (wu_mem (i := 1323) (by rfl) rfl) rfl (by decide +kernel)
set_option maxRecDepth 100000 in
theorem ok_160 : okM PRG M_160 := okM_of (by decide +kernel) (wu_mem (i := 1341) (by rfl) rfl) rfl (by decide +kernel)
set_option maxRecDepth 100000 in
theorem ok_161 : okM PRG M_161 := okM_of (by decide +kernel) (wu_mem (i := 1350) (by rfl) rfl) rfl (by decide +kernel)
set_option maxRecDepth 100000 in
theorem ok_162 : okM PRG M_162 := okM_of (by decide +kernel) (wu_mem (i := 1359) (by rfl) rfl) rfl (by decide +kernel)
set_option maxRecDepth 100000 in
theorem ok_163 : okM PRG M_163 := okM_of (by decide +kernel) (wu_mem (i := 1367) (by rfl) rfl) rfl (by decide +kernel)
set_option maxRecDepth 100000 in
theorem ok_164 : okM PRG M_164 := okM_of (by decide +kernel) (wu_mem (i := 1382) (by rfl) rfl) rfl (by decide +kernel)
set_option maxRecDepth 100000 in
theorem ok_165 : okM PRG M_165 := okM_of (by decide +kernel) (wu_mem (i := 1378) (by rfl) rfl) rfl (by decide +kernel)
set_option maxRecDepth 100000 in
theorem ok_166 : okM PRG M_166 := okM_of (by decide +kernel) (wu_mem (i := 1409) (by rfl) rfl) rfl (by decide +kernel)
set_option maxRecDepth 100000 in
theorem ok_167 : okM PRG M_167 := okM_of (by decide +kernel) (wu_mem (i := 1413) (by rfl) rfl) rfl (by decide +kernel)
set_option maxRecDepth 100000 in
theorem ok_168 : okM PRG M_168 := okM_of (by decide +kernel) (wu_mem (i := 1425) (by rfl) rfl) rfl (by decide +kernel)
set_option maxRecDepth 100000 in
theorem ok_169 : okM PRG M_169 := okM_of (by decide +kernel) (wu_mem (i := 1440) (by rfl) rfl) rfl (by decide +kernel)
set_option maxRecDepth 100000 in
theorem ok_170 : okM PRG M_170 := okM_of (by decide +kernel) (wu_mem (i := 1436) (by rfl) rfl) rfl (by decide +kernel)
set_option maxRecDepth 100000 in
theorem ok_171 : okM PRG M_171 := okM_of (by decide +kernel) (wu_mem (i := 1448) (by rfl) rfl) rfl (by decide +kernel)
set_option maxRecDepth 100000 in
theorem ok_172 : okM PRG M_172 := okM_of (by decide +kernel) (wu_mem (i := 1471) (by rfl) rfl) rfl (by decide +kernel)
set_option maxRecDepth 100000 in
theorem ok_173 : okM PRG M_173 := okM_of (by decide +kernel) (wu_mem (i := 1479) (by rfl) rfl) rfl (by decide +kernel)
set_option maxRecDepth 100000 in
theorem ok_174 : okM PRG M_174 := okM_of (by decide +kernel) (wu_mem (i := 1487) (by rfl) rfl) rfl (by decide +kernel)
set_option maxRecDepth 100000 in
theorem ok_175 : okM PRG M_175 := okM_of (by decide +kernel) (wu_mem (i := 1491) (by rfl) rfl) rfl (by decide +kernel)
set_option maxRecDepth 100000 in
theorem ok_176 : okM PRG M_176 := okM_of (by decide +kernel) (wu_mem (i := 1499) (by rfl) rfl) rfl (by decide +kernel)
set_option maxRecDepth 100000 in
theorem ok_177 : okM PRG M_177 := okM_of (by decide +kernel) (wu_mem (i := 1495) (by rfl) rfl) rfl (by decide +kernel)
set_option maxRecDepth 100000 in
theorem ok_178 : okM PRG M_178 := okM_of (by decide +kernel) (wu_mem (i := 1808) (by rfl) rfl) rfl (by decide +kernel)
set_option maxRecDepth 100000 in
theorem ok_179 : okM PRG M_179 := okM_of (by decide +kernel) (wu_mem (i := 1804) (by rfl) rfl) rfl (by decide +kernel)
