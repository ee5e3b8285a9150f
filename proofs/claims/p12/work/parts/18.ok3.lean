/-! the tables are the class's -/
set_option maxRecDepth 100000 in
theorem ok_180 : okM PRG M_180 := okM_of (by decide +kernel) (wu_mem (i := 1812) (by rfl) rfl) rfl (by decide +kernel)
set_option maxRecDepth 100000 in
theorem ok_181 : okM PRG M_181 := okM_of (by decide +kernel) (wu_mem (i := 1824) (by rfl) rfl) rfl (by decide +kernel)
set_option maxRecDepth 100000 in
theorem ok_182 : okM PRG M_182 := okM_of (by decide +kernel) (wu_mem (i := 1834) (by rfl) rfl) rfl (by decide +kernel)
set_option maxRecDepth 100000 in
theorem ok_183 : okM PRG M_183 := okM_of (by decide +kernel) (wu_mem (i := 1831) (by rfl) rfl) rfl (by decide +kernel)
set_option maxRecDepth 100000 in
theorem ok_184 : okM PRG M_184 := okM_of (by decide +kernel) (wu_mem (i := 1513) (by rfl) rfl) rfl (by decide +kernel)
set_option maxRecDepth 100000 in
theorem ok_185 : okM PRG M_185 := okM_of (by decide +kernel) (wu_mem (i := 1510) (by rfl) rfl) rfl (by decide +kernel)
set_option maxRecDepth 100000 in
theorem ok_186 : okM PRG M_186 := okM_of (by decide +kernel) (wu_mem (i := 1828) (by rfl) rfl) rfl (by decide +kernel)
set_option maxRecDepth 100000 in
theorem ok_187 : okM PRG M_187 := okM_of (by decide +kernel) (wu_mem (i := 1838) (by rfl) rfl) rfl (by decide +kernel)
set_option maxRecDepth 100000 in
theorem ok_188 : okM PRG M_188 := okM_of (by decide +kernel) (wu_mem (i := 1820) (by rfl) rfl) rfl (by decide +kernel)
set_option maxRecDepth 100000 in
theorem ok_189 : okM PRG M_189 := okM_of (by decide +kernel) (wu_mem (i := 1842) (by rfl) rfl) rfl (by decide +kernel)
set_option maxRecDepth 100000 in
theorem ok_190 : okM PRG M_190 := okM_of (by decide +kernel) (wu_mem (i := 1854) (by rfl) rfl) rfl (by decide +kernel)
set_option maxRecDepth 100000 in
theorem ok_191 : okM PRG M_191 := okM_of (by decide +kernel) (wu_mem (i := 1862) (by rfl) rfl) rfl (by decide +kernel)
set_option maxRecDepth 100000 in
theorem ok_192 : okM PRG M_192 := okM_of (by decide +kernel) (wu_mem (i := 1850) (by rfl) rfl) rfl (by decide +kernel)
set_option maxRecDepth 100000 in
theorem ok_193 : okM PRG M_193 := okM_of (by decide +kernel) (wu_mem (i := 1869) (by rfl) rfl) rfl (by decide +kernel)
set_option maxRecDepth 100000 in
theorem ok_194 : okM PRG M_194 := okM_of (by decide +kernel) (wu_mem (i := 1858) (by rfl) rfl) rfl (by decide +kernel)
set_option maxRecDepth 100000 in
theorem ok_195 : okM PRG M_195 := okM_of (by decide +kernel) (wu_mem (i := 1865) (by rfl) rfl) rfl (by decide +kernel)
set_option maxRecDepth 100000 in
theorem ok_196 : okM PRG M_196 := okM_of (by decide +kernel) (wu_mem (i := 1893) (by rfl) rfl) rfl (by decide +kernel)
set_option maxRecDepth 100000 in
theorem ok_197 : okM PRG M_197 := okM_of (by decide +kernel) (wu_mem (i := 1889) (by rfl) rfl) rfl (by decide +kernel)
set_option maxRecDepth 100000 in
theorem ok_198 : okM PRG M_198 := okM_of (by decide +kernel) (wu_mem (i := 1897) (by rfl) rfl) rfl (by decide +kernel)
set_option maxRecDepth 100000 in
theorem ok_199 : okM PRG M_199 := okM_of (by decide +kernel) (wu_mem (i := 1885) (by rfl) rfl) rfl (by decide +kernel)
set_option maxRecDepth 100000 in
theorem ok_200 : okM PRG M_200 := okM_of (by decide +kernel) (wu_mem (i := 1881) (by rfl) rfl) rfl (by decide +kernel)
set_option maxRecDepth 100000 in
theorem ok_201 : okM PRG M_201 := okM_of (by decide +kernel) (wu_mem (i := 1877) (by rfl) rfl) rfl (by decide +kernel)
set_option maxRecDepth 100000 in
theorem ok_202 : okM PRG M_202 := okM_of (by decide +kernel) (wu_mem (i := 1873) (by rfl) rfl) rfl (by decide +kernel)
set_option maxRecDepth 100000 in
theorem ok_203 : okM PRG M_203 := okM_of (by decide +kernel) (wu_mem (i := 1846) (by rfl) rfl) rfl (by decide +kernel)
set_option maxRecDepth 100000 in
theorem ok_204 : okM PRG M_204 := okM_of (by decide +kernel) (wu_mem (i := 1816) (by rfl) rfl) rfl (by decide +kernel)
set_option maxRecDepth 100000 in
theorem ok_205 : okM PRG M_205 := okM_of (by decide +kernel) (wu_mem (i := 1901) (by rfl) rfl) rfl (by decide +kernel)
set_option maxRecDepth 100000 in
theorem ok_206 : okM PRG M_206 := okM_of (by decide +kernel) (wu_mem (i := 2090) (by rfl) rfl) rfl (by decide +kernel)
set_option maxRecDepth 100000 in
theorem ok_207 : okM PRG M_207 := okM_of (by decide +kernel) (wu_mem (i := 2086) (by rfl) rfl) rfl (by decide +kernel)
set_option maxRecDepth 100000 in
theorem ok_208 : okM PRG M_208 := okM_of (by decide +kernel) (wu_mem (i := 2082) (by rfl) rfl) rfl (by decide +kernel)
set_option maxRecDepth 100000 in
theorem ok_209 : okM PRG M_209 := okM_of (by decide +kernel) (wu_mem (i := 1931) (by rfl) rfl) rfl (by decide +kernel)
set_option maxRecDepth 100000 in
theorem ok_210 : okM PRG M_210 := okM_of (by decide +kernel) (wu_mem (i := 1909) (by rfl) rfl) rfl (by decide +kernel)
set_option maxRecDepth 100000 in
theorem ok_211 : okM PRG M_211 := okM_of (by decide +kernel) (wu_mem (i := 1920) (by rfl) rfl) rfl (by decide +kernel)
set_option maxRecDepth 100000 in
theorem ok_212 : okM PRG M_212 := okM_of (by decide +kernel) (wu_mem (i := 1970) (by rfl) rfl) rfl (by decide +kernel)
set_option maxRecDepth 100000 in
theorem ok_213 : okM PRG M_213 := okM_of (by decide +kernel) (wu_mem (i := 2030) (by rfl) rfl) rfl (by decide +kernel)
set_option maxRecDepth 100000 in
theorem ok_214 : okM PRG M_214 := okM_of (by decide +kernel) (wu_mem (i := 1974) (by rfl) rfl) rfl (by decide +kernel)
set_option maxRecDepth 100000 in
theorem ok_215 : okM PRG M_215 := okM_of (by decide +kernel) (wu_mem (i := 1990) (by rfl) rfl) rfl (by decide +kernel)
set_option maxRecDepth 100000 in
theorem ok_216 : okM PRG M_216 := okM_of (by decide +kernel) (wu_mem (i := 1938) (by rfl) rfl) rfl (by decide +kernel)
set_option maxRecDepth 100000 in
theorem ok_217 : okM PRG M_217 := okM_of (by decide +kernel) (wu_mem (i := 2002) (by rfl) rfl) rfl (by decide +kernel)
set_option maxRecDepth 100000 in
theorem ok_218 : okM PRG M_218 := okM_of (by decide +kernel) (wu_mem (i := 2058) (by rfl) rfl) rfl (by decide +kernel)
set_option maxRecDepth 100000 in
theorem ok_219 : okM PRG M_219 := okM_of (by decide +kernel) (wu_mem (i := 1924) (by rfl) rfl) rfl (by decide +kernel)
set_option maxRecDepth 100000 in
theorem ok_220 : okM PRG M_220 := okM_of (by decide +kernel) (wu_mem (i := 1915) (by rfl) rfl) rfl (by decide +kernel)
set_option maxRecDepth 100000 in
theorem ok_221 : okM PRG M_221 := okM_of (by decide +kernel) (wu_mem (i := 1912) (by rfl) rfl) rfl (by decide +kernel)
set_option maxRecDepth 100000 in
theorem ok_222 : okM PRG M_222 := okM_of (by decide +kernel) (wu_mem (i := 1905) (by rfl) rfl) rfl (by decide +kernel)
set_option maxRecDepth 100000 in
theorem ok_223 : okM PRG M_223 := okM_of (by decide +kernel) (wu_mem (i := 1928) (by rfl) rfl) rfl (by decide +kernel)
set_option maxRecDepth 100000 in
theorem ok_224 : okM PRG M_224 := okM_of (by decide +kernel) (wu_mem (i := 1935) (by rfl) rfl) rfl (by decide +kernel)
set_option maxRecDepth 100000 in
theorem ok_225 : okM PRG M_225 := okM_of (by decide +kernel) (wu_mem (i := 1950) (by rfl) rfl) rfl (by decide +kernel)
set_option maxRecDepth 100000 in
theorem ok_226 : okM PRG M_226 := okM_of (by decide +kernel) (wu_mem (i := 1946) (by rfl) rfl) rfl (by decide +kernel)
set_option maxRecDepth 100000 in
theorem ok_227 : okM PRG M_227 := okM_of (by decide +kernel) (wu_mem (i := 1942) (by rfl) rfl) rfl (by decide +kernel)
set_option maxRecDepth 100000 in
theorem ok_228 : okM PRG M_228 := okM_of (by decide +kernel) (wu_mem (i := 1966) (by rfl) rfl) rfl (by decide +kernel)
set_option maxRecDepth 100000 in
theorem ok_229 : okM PRG M_229 := okM_of (by decide +kernel) (wu_mem (i := 1962) (by rfl) rfl) rfl (by decide +kernel)
set_option maxRecDepth 100000 in
theorem ok_230 : okM PRG M_230 := okM_of (by decide +kernel) (wu_mem (i := 1958) (by rfl) rfl) rfl (by decide +kernel)
set_option maxRecDepth 100000 in
theorem ok_231 : okM PRG M_231 := okM_of (by decide +kernel) (wu_mem (i := 1954) (by rfl) rfl) rfl (by decide +kernel)
set_option maxRecDepth 100000 in
theorem ok_232 : okM PRG M_232 := okM_of (by decide +kernel) (wu_mem (i := 1986) (by rfl) rfl) rfl (by decide +kernel)
set_option maxRecDepth 100000 in
theorem ok_233 : okM PRG M_233 := okM_of (by decide +kernel) (wu_mem (i := 1982) (by rfl) rfl) rfl (by decide +kernel)
set_option maxRecDepth 100000 in
theorem ok_234 : okM PRG M_234 := okM_of (by decide +kernel) (wu_mem (i := 1978) (by rfl) rfl) rfl (by decide +kernel)
set_option maxRecDepth 100000 in
theorem ok_235 : okM PRG M_235 := okM_of (by decide +kernel) (wu_mem (i := 2006) (by rfl) rfl) rfl (by decide +kernel)
set_option maxRecDepth 100000 in
theorem ok_236 : okM PRG M_236 := okM_of (by decide +kernel) (wu_mem (i := 1998) (by rfl) rfl) rfl (by decide +kernel)
set_option maxRecDepth 100000 in
theorem ok_237 : okM PRG M_237 := okM_of (by decide +kernel) (wu_mem (i := 1994) (by rfl) rfl) rfl (by decide +kernel)
set_option maxRecDepth 100000 in
theorem ok_238 : okM PRG M_238 := okM_of (by decide +kernel) (wu_mem (i := 2010) (by rfl) rfl) rfl (by decide +kernel)
set_option maxRecDepth 100000 in
theorem ok_239 : okM PRG M_239 := okM_of (by decide +kernel) (wu_mem (i := 2014) (by rfl) rfl) rfl (by decide +kernel)
