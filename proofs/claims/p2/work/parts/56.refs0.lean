/-! the reference: promises -/
def sp_181 : SP := ([(1, 12, 0), (0, 0, 2147483647)], [], some (0, 0, 255), [], [], [], 0, 0, [])
set_option maxRecDepth 100000 in
theorem c_181 : SpecOK PRG TYP PKi 181 sp_181 := chkH_ok (xw := noW) (xl := xlPK) noW_ok xlPK_ok (M0 := M_181) (dep := DEPR) (env := []) (cuts := []) (fuel := 19) rfl (by decide) (fun _ h => absurd h List.not_mem_nil) stabPK (by decide +kernel)
def sp_182 : SP := ([(0, (-2147483648), 2147483647)], [], some (0, 0, 1), [(0, 48, 57)], [], [], 0, 0, [])
set_option maxRecDepth 100000 in
theorem c_182 : SpecOK PRG TYP PKi 182 sp_182 := chkH_ok (xw := noW) (xl := xlPK) noW_ok xlPK_ok (M0 := M_182) (dep := DEPR) (env := []) (cuts := []) (fuel := 18) rfl (by decide) (fun _ h => absurd h List.not_mem_nil) stabPK (by decide +kernel)
def sp_183 : SP := ([(0, (-2147483648), 2147483647)], [], some (0, 0, 1), [(0, 97, 122)], [], [], 0, 0, [])
set_option maxRecDepth 100000 in
theorem c_183 : SpecOK PRG TYP PKi 183 sp_183 := chkH_ok (xw := noW) (xl := xlPK) noW_ok xlPK_ok (M0 := M_183) (dep := DEPR) (env := []) (cuts := []) (fuel := 18) rfl (by decide) (fun _ h => absurd h List.not_mem_nil) stabPK (by decide +kernel)
def sp_184 : SP := ([(3, 0, 0), (0, (-2147483648), 2147483647)], [], some (3, 0, 0), [], [], [], 0, 0, [])
set_option maxRecDepth 100000 in
theorem c_184 : SpecOK PRG TYP PKi 184 sp_184 := chkH_ok (xw := noW) (xl := xlPK) noW_ok xlPK_ok (M0 := M_184) (dep := DEPR) (env := []) (cuts := []) (fuel := 21) rfl (by decide) (fun _ h => absurd h List.not_mem_nil) stabPK (by decide +kernel)
def sp_186 : SP := ([(1, 12, 0), (0, 0, 41), (0, (-2147483648), 2147483647), (0, 0, 9999), (3, 0, 0)], [(0, 10, 0, 400)], none, [], [(0, 10, 1, 401)], [(12, 10, 10), (56, 0, 402), (57, 0, 402), (58, 0, 402)], 0, 0, [])
set_option maxRecDepth 100000 in
theorem c_186 : SpecOK PRG TYP PKi 186 sp_186 := chkH_ok (xw := noW) (xl := xlPK) noW_ok xlPK_ok (M0 := M_186) (dep := DEPR) (env := []) (cuts := []) (fuel := 36) rfl (by decide) (fun _ h => absurd h List.not_mem_nil) stabPK (by decide +kernel)
def sp_187 : SP := ([(1, 12, 0), (0, (-2147483648), 2147483647), (0, (-2147483648), 2147483647), (0, (-2147483648), 2147483647)], [(0, 10, 0, 400)], some (0, 1, 2), [], [(0, 10, 1, 401)], [(12, 10, 10), (56, 0, 402), (57, 0, 402), (58, 0, 402)], 1, 0, [])
set_option maxRecDepth 100000 in
theorem c_187 : SpecOK PRG TYP PKi 187 sp_187 := chkH_ok (xw := noW) (xl := xlPK) noW_ok xlPK_ok (M0 := M_187) (dep := DEPR) (env := [(186, sp_186)]) (cuts := []) (fuel := 367) rfl (by decide) (List.forall_mem_cons.mpr ⟨c_186, fun _ h => absurd h List.not_mem_nil⟩) stabPK (by decide +kernel)
def sp_189 : SP := ([(1, 12, 0), (0, (-2147483648), 2147483647)], [], some (0, 0, 1), [], [], [], 0, 0, [])
set_option maxRecDepth 100000 in
theorem c_189 : SpecOK PRG TYP PKi 189 sp_189 := chkH_ok (xw := noW) (xl := xlPK) noW_ok xlPK_ok (M0 := M_189) (dep := DEPR) (env := []) (cuts := []) (fuel := 22) rfl (by decide) (fun _ h => absurd h List.not_mem_nil) stabPK (by decide +kernel)
def sp_190 : SP := ([(1, 12, 0), (0, (-2147483648), 2147483647)], [], none, [], [], [(12, 13, 13), (12, 14, 14)], 0, 0, [])
set_option maxRecDepth 100000 in
theorem c_190 : SpecOK PRG TYP PKi 190 sp_190 := chkH_ok (xw := noW) (xl := xlPK) noW_ok xlPK_ok (M0 := M_190) (dep := DEPR) (env := []) (cuts := []) (fuel := 20) rfl (by decide) (fun _ h => absurd h List.not_mem_nil) stabPK (by decide +kernel)
def sp_191 : SP := ([(1, 12, 0), (0, (-2147483648), 2147483647), (0, 0, 400)], [], none, [], [], [(12, 15, 15), (12, 16, 16)], 0, 0, [])
set_option maxRecDepth 100000 in
theorem c_191 : SpecOK PRG TYP PKi 191 sp_191 := chkH_ok (xw := noW) (xl := xlPK) noW_ok xlPK_ok (M0 := M_191) (dep := DEPR) (env := []) (cuts := []) (fuel := 52) rfl (by decide) (fun _ h => absurd h List.not_mem_nil) stabPK (by decide +kernel)
def sp_192 : SP := ([(1, 12, 0)], [], none, [], [], [(12, 11, 11), (12, 13, 13), (12, 14, 14)], 1, 0, [])
set_option maxRecDepth 100000 in
theorem c_192 : SpecOK PRG TYP PKi 192 sp_192 := chkH_ok (xw := noW) (xl := xlPK) noW_ok xlPK_ok (M0 := M_192) (dep := DEPR) (env := [(190, sp_190)]) (cuts := []) (fuel := 21) rfl (by decide) (List.forall_mem_cons.mpr ⟨c_190, fun _ h => absurd h List.not_mem_nil⟩) stabPK (by decide +kernel)
def sp_193 : SP := ([(1, 12, 0), (0, (-2147483648), 2147483647)], [], none, [], [], [(12, 11, 11), (12, 13, 13), (12, 14, 14)], 2, 0, [])
set_option maxRecDepth 100000 in
theorem c_193 : SpecOK PRG TYP PKi 193 sp_193 := chkH_ok (xw := noW) (xl := xlPK) noW_ok xlPK_ok (M0 := M_193) (dep := DEPR) (env := [(189, sp_189), (190, sp_190), (192, sp_192)]) (cuts := []) (fuel := 17) rfl (by decide) (List.forall_mem_cons.mpr ⟨c_189, List.forall_mem_cons.mpr ⟨c_190, List.forall_mem_cons.mpr ⟨c_192, fun _ h => absurd h List.not_mem_nil⟩⟩⟩) stabPK (by decide +kernel)
def sp_194 : SP := ([(1, 12, 0), (0, (-2147483648), 2147483647), (0, (-2147483648), 2147483647)], [], some (0, (-2147483648), 2147483647), [], [], [(12, 11, 11), (12, 13, 13), (12, 14, 14), (12, 15, 15), (12, 16, 16)], 2, 0, [])
set_option maxRecDepth 100000 in
theorem c_194 : SpecOK PRG TYP PKi 194 sp_194 := chkH_ok (xw := noW) (xl := xlPK) noW_ok xlPK_ok (M0 := M_194) (dep := DEPR) (env := [(189, sp_189), (190, sp_190), (191, sp_191), (192, sp_192)]) (cuts := []) (fuel := 56) rfl (by decide) (List.forall_mem_cons.mpr ⟨c_189, List.forall_mem_cons.mpr ⟨c_190, List.forall_mem_cons.mpr ⟨c_191, List.forall_mem_cons.mpr ⟨c_192, fun _ h => absurd h List.not_mem_nil⟩⟩⟩⟩) stabPK (by decide +kernel)
def sp_205 : SP := ([(1, 12, 0)], [], some (0, (-2147483648), 2147483647), [], [], [], 0, 0, [])
set_option maxRecDepth 100000 in
theorem c_205 : SpecOK PRG TYP PKi 205 sp_205 := chkH_ok (xw := noW) (xl := xlPK) noW_ok xlPK_ok (M0 := M_205) (dep := DEPR) (env := []) (cuts := []) (fuel := 8) rfl (by decide) (fun _ h => absurd h List.not_mem_nil) stabPK (by decide +kernel)
def sp_211 : SP := ([(1, 12, 0)], [], some (0, 1, 4), [], [], [], 1, 0, [])
set_option maxRecDepth 100000 in
theorem c_211 : SpecOK PRG TYP PKi 211 sp_211 := chkH_ok (xw := noW) (xl := xlPK) noW_ok xlPK_ok (M0 := M_211) (dep := DEPR) (env := [(210, sp_210)]) (cuts := []) (fuel := 10) rfl (by decide) (List.forall_mem_cons.mpr ⟨c_210, fun _ h => absurd h List.not_mem_nil⟩) stabPK (by decide +kernel)
def sp_212 : SP := ([(1, 12, 0), (0, (-1), 15)], [], some (0, (-1), 15), [], [], [], 0, 0, [])
set_option maxRecDepth 100000 in
theorem c_212 : SpecOK PRG TYP PKi 212 sp_212 := chkH_ok (xw := noW) (xl := xlPK) noW_ok xlPK_ok (M0 := M_212) (dep := DEPR) (env := []) (cuts := []) (fuel := 13) rfl (by decide) (fun _ h => absurd h List.not_mem_nil) stabPK (by decide +kernel)
def sp_213 : SP := ([(1, 12, 0), (0, (-1), 15)], [], some (0, (-15), 15), [], [], [], 0, 0, [])
set_option maxRecDepth 100000 in
theorem c_213 : SpecOK PRG TYP PKi 213 sp_213 := chkH_ok (xw := noW) (xl := xlPK) noW_ok xlPK_ok (M0 := M_213) (dep := DEPR) (env := []) (cuts := []) (fuel := 13) rfl (by decide) (fun _ h => absurd h List.not_mem_nil) stabPK (by decide +kernel)
def sp_209 : SP := ([(0, (-2147483648), 2147483647)], [], some (0, (-2147483648), 2147483647), [], [], [], 0, 0, [])
set_option maxRecDepth 100000 in
theorem c_209 : SpecOK PRG TYP PKi 209 sp_209 := chkH_ok (xw := noW) (xl := xlPK) noW_ok xlPK_ok (M0 := M_209) (dep := DEPR) (env := []) (cuts := [(4, ([((0, 0, 0), (0, (-2147483648), 2147483647)), ((0, 1, 0), (0, (-2147483648), 2147483647)), ((0, 2, 0), (0, 0, 16))], [(0, 0), (1, 1), (2, 2)], [], [(99996, 0, 0), (16, (-1), 2), (100001, 0, 0), (0, 0, 0)], []))]) (fuel := 24) rfl (by decide) (fun _ h => absurd h List.not_mem_nil) stabPK (by decide +kernel)
def sp_216 : SP := ([(0, (-2147483648), 2147483647)], [], some (0, 0, 1), [(0, 0, 3)], [], [], 1, 0, [])
set_option maxRecDepth 100000 in
theorem c_216 : SpecOK PRG TYP PKi 216 sp_216 := chkH_ok (xw := noW) (xl := xlPK) noW_ok xlPK_ok (M0 := M_216) (dep := DEPR) (env := [(195, sp_195)]) (cuts := []) (fuel := 10) rfl (by decide) (List.forall_mem_cons.mpr ⟨c_195, fun _ h => absurd h List.not_mem_nil⟩) stabPK (by decide +kernel)
def sp_217 : SP := ([(1, 12, 0), (0, (-2147483648), 2147483647)], [], some (0, 0, 1), [(1, 0, 15)], [], [], 1, 0, [])
set_option maxRecDepth 100000 in
theorem c_217 : SpecOK PRG TYP PKi 217 sp_217 := chkH_ok (xw := noW) (xl := xlPK) noW_ok xlPK_ok (M0 := M_217) (dep := DEPR) (env := [(210, sp_210), (195, sp_195)]) (cuts := []) (fuel := 13) rfl (by decide) (List.forall_mem_cons.mpr ⟨c_210, List.forall_mem_cons.mpr ⟨c_195, fun _ h => absurd h List.not_mem_nil⟩⟩) stabPK (by decide +kernel)
def sp_218 : SP := ([(1, 12, 0), (0, (-2147483648), 2147483647)], [], some (0, 0, 1), [], [], [], 1, 0, [])
set_option maxRecDepth 100000 in
theorem c_218 : SpecOK PRG TYP PKi 218 sp_218 := chkH_ok (xw := noW) (xl := xlPK) noW_ok xlPK_ok (M0 := M_218) (dep := DEPR) (env := [(195, sp_195)]) (cuts := []) (fuel := 18) rfl (by decide) (List.forall_mem_cons.mpr ⟨c_195, fun _ h => absurd h List.not_mem_nil⟩) stabPK (by decide +kernel)
def sp_219 : SP := ([(1, 12, 0)], [], none, [], [], [(12, 45, 45), (12, 47, 47), (12, 48, 48)], 0, 0, [])
set_option maxRecDepth 100000 in
theorem c_219 : SpecOK PRG TYP PKi 219 sp_219 := chkH_ok (xw := noW) (xl := xlPK) noW_ok xlPK_ok (M0 := M_219) (dep := DEPR) (env := []) (cuts := []) (fuel := 15) rfl (by decide) (fun _ h => absurd h List.not_mem_nil) stabPK (by decide +kernel)
def sp_220 : SP := ([(0, (-2147483648), 2147483647), (0, (-2147483648), 2147483647)], [], some (0, (-2147483648), 2147483647), [], [], [], 0, 0, [])
set_option maxRecDepth 100000 in
theorem c_220 : SpecOK PRG TYP PKi 220 sp_220 := chkH_ok (xw := noW) (xl := xlPK) noW_ok xlPK_ok (M0 := M_220) (dep := DEPR) (env := []) (cuts := []) (fuel := 19) rfl (by decide) (fun _ h => absurd h List.not_mem_nil) stabPK (by decide +kernel)
def sp_221 : SP := ([(0, (-2147483648), 2147483647), (0, (-2147483648), 2147483647), (0, 1, 16)], [], some (0, 0, 15), [], [], [], 1, 0, [])
set_option maxRecDepth 100000 in
theorem c_221 : SpecOK PRG TYP PKi 221 sp_221 := chkH_ok (xw := noW) (xl := xlPK) noW_ok xlPK_ok (M0 := M_221) (dep := DEPR) (env := [(220, sp_220)]) (cuts := []) (fuel := 15) rfl (by decide) (List.forall_mem_cons.mpr ⟨c_220, fun _ h => absurd h List.not_mem_nil⟩) stabPK (by decide +kernel)
def sp_214 : SP := ([(1, 12, 0)], [], some (0, (-2147483648), 3), [], [], [], 0, 0, [])
set_option maxRecDepth 100000 in
theorem c_214 : SpecOK PRG TYP PKi 214 sp_214 := chkH_ok (xw := noW) (xl := xlPK) noW_ok xlPK_ok (M0 := M_214) (dep := DEPR) (env := []) (cuts := []) (fuel := 25) rfl (by decide) (fun _ h => absurd h List.not_mem_nil) stabPK (by decide +kernel)
def sp_215 : SP := ([(1, 12, 0), (0, (-2147483648), 2147483647)], [], some (0, (-2147483648), 2147483647), [], [], [], 1, 0, [])
set_option maxRecDepth 100000 in
theorem c_215 : SpecOK PRG TYP PKi 215 sp_215 := chkH_ok (xw := noW) (xl := xlPK) noW_ok xlPK_ok (M0 := M_215) (dep := DEPR) (env := [(195, sp_195)]) (cuts := []) (fuel := 37) rfl (by decide) (List.forall_mem_cons.mpr ⟨c_195, fun _ h => absurd h List.not_mem_nil⟩) stabPK (by decide +kernel)
def sp_228 : SP := ([(1, 12, 0), (0, (-1), 15), (0, (-1), 15)], [], some (0, 0, 1), [], [], [], 1, 0, [])
set_option maxRecDepth 100000 in
theorem c_228 : SpecOK PRG TYP PKi 228 sp_228 := chkH_ok (xw := noW) (xl := xlPK) noW_ok xlPK_ok (M0 := M_228) (dep := DEPR) (env := [(212, sp_212), (214, sp_214)]) (cuts := []) (fuel := 31) rfl (by decide) (List.forall_mem_cons.mpr ⟨c_212, List.forall_mem_cons.mpr ⟨c_214, fun _ h => absurd h List.not_mem_nil⟩⟩) stabPK (by decide +kernel)
def sp_229 : SP := ([(1, 12, 0), (0, 0, 3)], [], some (0, 0, 3), [], [], [], 2, 0, [])
set_option maxRecDepth 100000 in
theorem c_229 : SpecOK PRG TYP PKi 229 sp_229 := chkH_ok (xw := noW) (xl := xlPK) noW_ok xlPK_ok (M0 := M_229) (dep := DEPR) (env := [(228, sp_228)]) (cuts := [(8, ([((0, 0, 0), (1, 12, 0)), ((0, 1, 0), (0, 0, 3)), ((0, 2, 0), (0, 0, 15)), ((0, 3, 0), (0, 1, 16))], [(0, 0), (1, 1), (2, 2), (3, 3)], [], [(99992, 0, 0), (16, (-1), 3), (100001, 0, 0), (0, 0, 0)], []))]) (fuel := 42) rfl (by decide) (List.forall_mem_cons.mpr ⟨c_228, fun _ h => absurd h List.not_mem_nil⟩) stabPK (by decide +kernel)
def sp_232n0 : SP := ([(1, 12, 0), (0, 0, 0)], [], some (0, (-1), (-1)), [], [], [], 0, 0, [])
set_option maxRecDepth 100000 in
theorem c_232n0 : SpecOK PRG TYP PKi 232 sp_232n0 := chkH_ok (xw := noW) (xl := xlPK) noW_ok xlPK_ok (M0 := M_232) (dep := DEPR) (env := [(212, sp_212)]) (cuts := []) (fuel := 12) rfl (by decide) (List.forall_mem_cons.mpr ⟨c_212, fun _ h => absurd h List.not_mem_nil⟩) stabPK (by decide +kernel)
def sp_232n1 : SP := ([(1, 12, 0), (0, 1, 1)], [], some (0, (-1), 15), [], [], [], 1, 0, [])
set_option maxRecDepth 100000 in
theorem c_232n1 : SpecOK PRG TYP PKi 232 sp_232n1 := chkH_ok (xw := noW) (xl := xlPK) noW_ok xlPK_ok (M0 := M_232) (dep := DEPR) (env := [(212, sp_212)]) (cuts := []) (fuel := 20) rfl (by decide) (List.forall_mem_cons.mpr ⟨c_212, fun _ h => absurd h List.not_mem_nil⟩) stabPK (by decide +kernel)
def sp_232n2 : SP := ([(1, 12, 0), (0, 2, 2)], [], some (0, (-1), 15), [], [], [], 1, 0, [])
set_option maxRecDepth 100000 in
theorem c_232n2 : SpecOK PRG TYP PKi 232 sp_232n2 := chkH_ok (xw := noW) (xl := xlPK) noW_ok xlPK_ok (M0 := M_232) (dep := DEPR) (env := [(212, sp_212)]) (cuts := []) (fuel := 20) rfl (by decide) (List.forall_mem_cons.mpr ⟨c_212, fun _ h => absurd h List.not_mem_nil⟩) stabPK (by decide +kernel)
def sp_232n3 : SP := ([(1, 12, 0), (0, 3, 3)], [], some (0, (-1), 15), [], [], [], 1, 0, [])
set_option maxRecDepth 100000 in
theorem c_232n3 : SpecOK PRG TYP PKi 232 sp_232n3 := chkH_ok (xw := noW) (xl := xlPK) noW_ok xlPK_ok (M0 := M_232) (dep := DEPR) (env := [(212, sp_212)]) (cuts := []) (fuel := 20) rfl (by decide) (List.forall_mem_cons.mpr ⟨c_212, fun _ h => absurd h List.not_mem_nil⟩) stabPK (by decide +kernel)
def sp_232n4 : SP := ([(1, 12, 0), (0, 4, 4)], [], some (0, (-1), (-1)), [], [], [], 0, 0, [])
set_option maxRecDepth 100000 in
theorem c_232n4 : SpecOK PRG TYP PKi 232 sp_232n4 := chkH_ok (xw := noW) (xl := xlPK) noW_ok xlPK_ok (M0 := M_232) (dep := DEPR) (env := [(212, sp_212)]) (cuts := []) (fuel := 12) rfl (by decide) (List.forall_mem_cons.mpr ⟨c_212, fun _ h => absurd h List.not_mem_nil⟩) stabPK (by decide +kernel)
def sp_232n5 : SP := ([(1, 12, 0), (0, 5, 5)], [], some (0, (-1), 15), [], [], [], 1, 0, [])
set_option maxRecDepth 100000 in
theorem c_232n5 : SpecOK PRG TYP PKi 232 sp_232n5 := chkH_ok (xw := noW) (xl := xlPK) noW_ok xlPK_ok (M0 := M_232) (dep := DEPR) (env := [(212, sp_212)]) (cuts := []) (fuel := 20) rfl (by decide) (List.forall_mem_cons.mpr ⟨c_212, fun _ h => absurd h List.not_mem_nil⟩) stabPK (by decide +kernel)
def sp_232n6 : SP := ([(1, 12, 0), (0, 6, 6)], [], some (0, (-1), 15), [], [], [], 1, 0, [])
set_option maxRecDepth 100000 in
theorem c_232n6 : SpecOK PRG TYP PKi 232 sp_232n6 := chkH_ok (xw := noW) (xl := xlPK) noW_ok xlPK_ok (M0 := M_232) (dep := DEPR) (env := [(212, sp_212)]) (cuts := []) (fuel := 20) rfl (by decide) (List.forall_mem_cons.mpr ⟨c_212, fun _ h => absurd h List.not_mem_nil⟩) stabPK (by decide +kernel)
def sp_232n7 : SP := ([(1, 12, 0), (0, 7, 7)], [], some (0, (-1), 15), [], [], [], 1, 0, [])
set_option maxRecDepth 100000 in
theorem c_232n7 : SpecOK PRG TYP PKi 232 sp_232n7 := chkH_ok (xw := noW) (xl := xlPK) noW_ok xlPK_ok (M0 := M_232) (dep := DEPR) (env := [(212, sp_212)]) (cuts := []) (fuel := 20) rfl (by decide) (List.forall_mem_cons.mpr ⟨c_212, fun _ h => absurd h List.not_mem_nil⟩) stabPK (by decide +kernel)
def sp_232n8 : SP := ([(1, 12, 0), (0, 8, 8)], [], some (0, (-1), (-1)), [], [], [], 0, 0, [])
set_option maxRecDepth 100000 in
theorem c_232n8 : SpecOK PRG TYP PKi 232 sp_232n8 := chkH_ok (xw := noW) (xl := xlPK) noW_ok xlPK_ok (M0 := M_232) (dep := DEPR) (env := [(212, sp_212)]) (cuts := []) (fuel := 12) rfl (by decide) (List.forall_mem_cons.mpr ⟨c_212, fun _ h => absurd h List.not_mem_nil⟩) stabPK (by decide +kernel)
def sp_232n9 : SP := ([(1, 12, 0), (0, 9, 9)], [], some (0, (-1), 15), [], [], [], 1, 0, [])
set_option maxRecDepth 100000 in
theorem c_232n9 : SpecOK PRG TYP PKi 232 sp_232n9 := chkH_ok (xw := noW) (xl := xlPK) noW_ok xlPK_ok (M0 := M_232) (dep := DEPR) (env := [(212, sp_212)]) (cuts := []) (fuel := 20) rfl (by decide) (List.forall_mem_cons.mpr ⟨c_212, fun _ h => absurd h List.not_mem_nil⟩) stabPK (by decide +kernel)
def sp_232n10 : SP := ([(1, 12, 0), (0, 10, 10)], [], some (0, (-1), 15), [], [], [], 1, 0, [])
set_option maxRecDepth 100000 in
theorem c_232n10 : SpecOK PRG TYP PKi 232 sp_232n10 := chkH_ok (xw := noW) (xl := xlPK) noW_ok xlPK_ok (M0 := M_232) (dep := DEPR) (env := [(212, sp_212)]) (cuts := []) (fuel := 20) rfl (by decide) (List.forall_mem_cons.mpr ⟨c_212, fun _ h => absurd h List.not_mem_nil⟩) stabPK (by decide +kernel)
def sp_232n11 : SP := ([(1, 12, 0), (0, 11, 11)], [], some (0, (-1), 15), [], [], [], 1, 0, [])
set_option maxRecDepth 100000 in
theorem c_232n11 : SpecOK PRG TYP PKi 232 sp_232n11 := chkH_ok (xw := noW) (xl := xlPK) noW_ok xlPK_ok (M0 := M_232) (dep := DEPR) (env := [(212, sp_212)]) (cuts := []) (fuel := 20) rfl (by decide) (List.forall_mem_cons.mpr ⟨c_212, fun _ h => absurd h List.not_mem_nil⟩) stabPK (by decide +kernel)
def sp_232n12 : SP := ([(1, 12, 0), (0, 12, 12)], [], some (0, (-1), (-1)), [], [], [], 0, 0, [])
set_option maxRecDepth 100000 in
theorem c_232n12 : SpecOK PRG TYP PKi 232 sp_232n12 := chkH_ok (xw := noW) (xl := xlPK) noW_ok xlPK_ok (M0 := M_232) (dep := DEPR) (env := [(212, sp_212)]) (cuts := []) (fuel := 12) rfl (by decide) (List.forall_mem_cons.mpr ⟨c_212, fun _ h => absurd h List.not_mem_nil⟩) stabPK (by decide +kernel)
def sp_232n13 : SP := ([(1, 12, 0), (0, 13, 13)], [], some (0, (-1), 15), [], [], [], 1, 0, [])
set_option maxRecDepth 100000 in
theorem c_232n13 : SpecOK PRG TYP PKi 232 sp_232n13 := chkH_ok (xw := noW) (xl := xlPK) noW_ok xlPK_ok (M0 := M_232) (dep := DEPR) (env := [(212, sp_212)]) (cuts := []) (fuel := 20) rfl (by decide) (List.forall_mem_cons.mpr ⟨c_212, fun _ h => absurd h List.not_mem_nil⟩) stabPK (by decide +kernel)
def sp_232n14 : SP := ([(1, 12, 0), (0, 14, 14)], [], some (0, (-1), 15), [], [], [], 1, 0, [])
set_option maxRecDepth 100000 in
theorem c_232n14 : SpecOK PRG TYP PKi 232 sp_232n14 := chkH_ok (xw := noW) (xl := xlPK) noW_ok xlPK_ok (M0 := M_232) (dep := DEPR) (env := [(212, sp_212)]) (cuts := []) (fuel := 20) rfl (by decide) (List.forall_mem_cons.mpr ⟨c_212, fun _ h => absurd h List.not_mem_nil⟩) stabPK (by decide +kernel)
def sp_232n15 : SP := ([(1, 12, 0), (0, 15, 15)], [], some (0, (-1), 15), [], [], [], 1, 0, [])
set_option maxRecDepth 100000 in
theorem c_232n15 : SpecOK PRG TYP PKi 232 sp_232n15 := chkH_ok (xw := noW) (xl := xlPK) noW_ok xlPK_ok (M0 := M_232) (dep := DEPR) (env := [(212, sp_212)]) (cuts := []) (fuel := 20) rfl (by decide) (List.forall_mem_cons.mpr ⟨c_212, fun _ h => absurd h List.not_mem_nil⟩) stabPK (by decide +kernel)
def sp_232n16 : SP := ([(1, 12, 0), (0, 16, 16)], [], some (0, (-1), (-1)), [], [], [], 0, 0, [])
set_option maxRecDepth 100000 in
theorem c_232n16 : SpecOK PRG TYP PKi 232 sp_232n16 := chkH_ok (xw := noW) (xl := xlPK) noW_ok xlPK_ok (M0 := M_232) (dep := DEPR) (env := [(212, sp_212)]) (cuts := []) (fuel := 12) rfl (by decide) (List.forall_mem_cons.mpr ⟨c_212, fun _ h => absurd h List.not_mem_nil⟩) stabPK (by decide +kernel)
def sp_248 : SP := ([(1, 12, 0), (0, (-1), 15), (0, (-2147483648), 2147483647), (0, (-2147483648), 2147483647), (0, (-2147483648), 2147483647)], [], none, [], [], [(79, 0, 13)], 1, 0, [])
set_option maxRecDepth 100000 in
theorem c_248 : SpecOK PRG TYP PKi 248 sp_248 := chkH_ok (xw := noW) (xl := xlPK) noW_ok xlPK_ok (M0 := M_248) (dep := DEPR) (env := [(212, sp_212), (213, sp_213)]) (cuts := [(3, ([((0, 0, 0), (1, 12, 0)), ((0, 1, 0), (0, (-1), 15)), ((0, 2, 0), (0, (-2147483648), 2147483647)), ((0, 3, 0), (0, (-2147483648), 2147483647)), ((0, 4, 0), (0, (-2147483648), 2147483647)), ((0, 5, 0), (0, 0, 14))], [(0, 0), (1, 1), (2, 2), (3, 3), (4, 4), (5, 5)], [], [(99997, 0, 0), (14, (-1), 5), (100001, 0, 0), (0, 0, 0)], []))]) (fuel := 47) rfl (by decide) (List.forall_mem_cons.mpr ⟨c_212, List.forall_mem_cons.mpr ⟨c_213, fun _ h => absurd h List.not_mem_nil⟩⟩) stabPK (by decide +kernel)
def sp_249 : SP := ([(1, 12, 0), (0, (-1), 15), (0, (-2147483648), 2147483647)], [], none, [], [], [(79, 0, 13)], 2, 0, [])
set_option maxRecDepth 100000 in
theorem c_249 : SpecOK PRG TYP PKi 249 sp_249 := chkH_ok (xw := noW) (xl := xlPK) noW_ok xlPK_ok (M0 := M_249) (dep := DEPR) (env := [(210, sp_210), (212, sp_212), (213, sp_213), (209, sp_209), (214, sp_214), (215, sp_215)]) (cuts := [(46, ([((0, 0, 0), (1, 12, 0)), ((0, 2, 0), (0, (-2147483648), 2147483647)), ((0, 3, 0), (0, (-2147483648), 2147483647)), ((0, 4, 0), (0, (-1), 15))], [(0, 0), (2, 1), (3, 2), (4, 3)], [], [(99954, 0, 0), (1, 1, 3), (100001, 0, 0), (0, 0, 0)], [])), (83, ([((0, 0, 0), (1, 12, 0)), ((0, 2, 0), (0, (-2147483648), 2147483647)), ((0, 3, 0), (0, (-2147483648), 2147483647)), ((0, 4, 0), (0, 0, 16))], [(0, 0), (2, 1), (3, 2), (4, 3)], [], [(99917, 0, 0), (16, (-1), 3), (100001, 0, 0), (0, 0, 0)], [])), (127, ([((0, 0, 0), (1, 12, 0)), ((0, 2, 0), (0, (-2147483648), 2147483647)), ((0, 4, 0), (0, (-2147483648), 2147483647)), ((0, 5, 0), (0, 0, 4))], [(0, 0), (2, 1), (4, 2), (5, 3)], [], [(99873, 0, 0), (4, (-1), 3), (100001, 0, 0), (0, 0, 0)], [])), (193, ([((0, 0, 0), (1, 12, 0)), ((0, 2, 0), (0, (-2147483648), 2147483647)), ((0, 5, 0), (0, 0, 4))], [(0, 0), (2, 1), (5, 2)], [], [(99807, 0, 0), (4, (-1), 2), (100001, 0, 0), (0, 0, 0)], []))]) (fuel := 136) rfl (by decide) (List.forall_mem_cons.mpr ⟨c_210, List.forall_mem_cons.mpr ⟨c_212, List.forall_mem_cons.mpr ⟨c_213, List.forall_mem_cons.mpr ⟨c_209, List.forall_mem_cons.mpr ⟨c_214, List.forall_mem_cons.mpr ⟨c_215, fun _ h => absurd h List.not_mem_nil⟩⟩⟩⟩⟩⟩) stabPK (by decide +kernel)
def sp_250 : SP := ([(1, 12, 0), (0, 0, 5), (0, (-2147483648), 2147483647), (0, (-2147483648), 2147483647)], [], some (0, 0, 1), [], [], [], 0, 0, [])
set_option maxRecDepth 100000 in
theorem c_250 : SpecOK PRG TYP PKi 250 sp_250 := chkH_ok (xw := noW) (xl := xlPK) noW_ok xlPK_ok (M0 := M_250) (dep := DEPR) (env := []) (cuts := []) (fuel := 42) rfl (by decide) (fun _ h => absurd h List.not_mem_nil) stabPK (by decide +kernel)
