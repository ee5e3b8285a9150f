/-! what a run that ends has done: the games of the class -/
set_option maxRecDepth 100000 in
theorem p_28_0 {n d : Nat} {Q : Option Value → Sg → Prop} (σ : Sg) (x0 x1 : Int32) (h : Q (some (.int ((((x0 ^^^ x1) * (1103515245 : Int32)) + (12345 : Int32)) ^^^ (ush (((x0 ^^^ x1) * (1103515245 : Int32)) + (12345 : Int32)) (15 : Int32))))) σ) : Pl PRG (n + 1) d 28 0 [(0, .int x0), (1, .int x1)] [] σ Q := by
  have hM : PRG[28]? = some M_28 := rfl
  refine Pl.sg1 (pc' := 17) (ls' := [(2, .int (((x0 ^^^ x1) * (1103515245 : Int32)) + (12345 : Int32))), (0, .int x0), (1, .int x1)]) (st' := [.int ((((x0 ^^^ x1) * (1103515245 : Int32)) + (12345 : Int32)) ^^^ (ush (((x0 ^^^ x1) * (1103515245 : Int32)) + (12345 : Int32)) (15 : Int32)))]) (σ' := σ) hM 12 rfl ?_
  refine Pl.weak (Pl.ret hM rfl rfl h)
set_option maxRecDepth 100000 in
theorem p_29_0 {n d : Nat} {Q : Option Value → Sg → Prop} (σ : Sg) (x0 x1 x2 : Int32) (h : (∀ w2 σ1, RCx PRG n 28 [.int x1, .int (20 : Int32)] σ (some (.int w2)) σ1 → (∀ w4 σ3, RCx PRG n 28 [.int w2, .int x2] σ1 (some (.int w4)) σ3 → ((x0 ≤ 0 → Q (some (.int (0 : Int32))) σ3) ∧ (¬ x0 ≤ 0 → (¬ x0 = 0 → Q (some (.int ((ush w4 (1 : Int32)) - (ush w4 (1 : Int32)) / x0 * x0))) σ3)))))) : Pl PRG (n + 1) d 29 0 [(0, .int x0), (1, .int x1), (2, .int x2)] [] σ Q := by
  have hM : PRG[29]? = some M_29 := rfl
  refine Pl.sg1 (pc' := 3) (ls' := [(0, .int x0), (1, .int x1), (2, .int x2)]) (st' := [.int (20 : Int32), .int x1]) (σ' := σ) hM 1 rfl ?_
  refine Pl.weak (Pl.cI hM rfl rfl (by decide) (Mj := M_28) rfl rfl (fun w2 σ1 hw => ?_))
  replace h := h w2 σ1 hw
  refine Pl.seg (pc' := 7) (ls' := [(0, .int x0), (1, .int x1), (2, .int x2)]) (st' := [.int x2, .int w2]) (σ' := σ1) hM 1 rfl ?_
  refine Pl.weak (Pl.cI hM rfl rfl (by decide) (Mj := M_28) rfl rfl (fun w4 σ3 hw => ?_))
  replace h := h w4 σ3 hw
  refine Pl.br (c := x0 ≤ 0) (a := 23) (b := 15) (ls' := [(3, .int w4), (0, .int x0), (1, .int x1), (2, .int x2)]) (st' := []) (σ' := σ3) hM 3 rfl (fun c => ?_) (fun c => ?_)
  · replace h := h.1 c
    refine Pl.seg (pc' := 24) (ls' := [(3, .int w4), (0, .int x0), (1, .int x1), (2, .int x2)]) (st' := [.int (0 : Int32)]) (σ' := σ3) hM 1 rfl ?_
    refine Pl.weak (Pl.ret hM rfl rfl h)
  · replace h := h.2 c
    refine Pl.seg (pc' := 19) (ls' := [(3, .int w4), (0, .int x0), (1, .int x1), (2, .int x2)]) (st' := [.int x0, .int (ush w4 (1 : Int32))]) (σ' := σ3) hM 4 rfl ?_
    refine Pl.weak (Pl.rm hM rfl (fun hi => ?_))
    replace h := h hi
    refine Pl.seg (pc' := 24) (ls' := [(3, .int w4), (0, .int x0), (1, .int x1), (2, .int x2)]) (st' := [.int ((ush w4 (1 : Int32)) - (ush w4 (1 : Int32)) / x0 * x0)]) (σ' := σ3) hM 1 rfl ?_
    refine Pl.weak (Pl.ret hM rfl rfl h)
set_option maxRecDepth 100000 in
theorem p_9_0 {n d : Nat} {Q : Option Value → Sg → Prop} (σ : Sg) (x1 : Int32) (h : (inR x1 16 = true → Q (some (.int (x1 - ((σ.1 10 x1.toNatClampNeg) * (σ.1 3 1))))) σ)) : Pl PRG (n + 1) d 9 0 [(0, .ref 3), (1, .int x1)] [] σ Q := by
  have hM : PRG[9]? = some M_9 := rfl
  refine Pl.sg1 (pc' := 6) (ls' := [(0, .ref 3), (1, .int x1)]) (st' := [.int x1, .ref 10, .int x1]) (σ' := σ) hM 3 rfl ?_
  refine Pl.weak (Pl.iald hM rfl rfl (fun hi => ?_))
  replace h := h hi
  refine Pl.seg (pc' := 13) (ls' := [(0, .ref 3), (1, .int x1)]) (st' := [.int (x1 - ((σ.1 10 x1.toNatClampNeg) * (σ.1 3 1)))]) (σ' := σ) hM 4 rfl ?_
  refine Pl.weak (Pl.ret hM rfl rfl h)
set_option maxRecDepth 100000 in
theorem p_18_0 {n d : Nat} {Q : Option Value → Sg → Prop} (σ : Sg) (h : Q (some (.int (((1 : Int32) <<< ((σ.1 3 10) &&& 31)) - (1 : Int32)))) σ) : Pl PRG (n + 1) d 18 0 [(0, .ref 3)] [] σ Q := by
  have hM : PRG[18]? = some M_18 := rfl
  refine Pl.sg1 (pc' := 8) (ls' := [(0, .ref 3)]) (st' := [.int (((1 : Int32) <<< ((σ.1 3 10) &&& 31)) - (1 : Int32))]) (σ' := σ) hM 5 rfl ?_
  refine Pl.weak (Pl.ret hM rfl rfl h)
def LV_32 : List (Nat × List Nat) := [(0, [0, 1, 2, 3, 4]), (1, [0, 1, 2, 3, 4]), (4, [0, 1, 2, 3, 4]), (5, [0, 1, 2, 3, 4]), (6, [0, 2, 3, 4]), (7, [0, 2, 3, 4]), (8, [0, 2, 3, 4]), (11, [0, 2, 3, 4]), (12, [0, 2, 3, 4]), (13, [0, 3, 4]), (14, [0, 3, 4]), (15, [0, 3, 4]), (18, [0, 3, 4]), (19, [0, 3, 4]), (20, [0, 4]), (21, [0, 4]), (22, [0, 4]), (25, [0, 4]), (26, [0, 4]), (28, [0]), (29, [0]), (30, [0]), (32, [0, 5]), (34, [0, 5]), (35, [0, 5]), (38, [0, 5]), (39, [0, 5]), (42, [0, 5]), (44, [0, 5]), (45, [0, 5]), (48, [0, 5]), (50, [0, 5]), (51, [0, 5]), (52, [0, 5]), (55, [0, 5]), (58, [0]), (59, [0]), (60, [0]), (63, [0]), (64, [0]), (65, [0]), (68, [0]), (69, []), (70, []), (73, [])]
set_option maxRecDepth 100000 in
theorem lv_32 : chkLv M_32 LV_32 = true := by decide +kernel
set_option maxRecDepth 100000 in
theorem lva_32_32 : lvA LV_32 32 = [0, 5] := by decide +kernel
set_option maxRecDepth 100000 in
theorem p_32_0 {n d : Nat} {Q : Option Value → Sg → Prop} (σ : Sg) (x1 x2 x3 x4 : Int32) (h : Pl PRG n d 32 32 [(0, .ref 22), (5, .int (0 : Int32))] [] (s1 (s1 (s1 (s1 σ 23 0 x1) 23 1 x2) 23 2 x3) 23 3 x4) Q) : Pl PRG (n + 1) d 32 0 [(0, .ref 22), (1, .int x1), (2, .int x2), (3, .int x3), (4, .int x4)] [] σ Q := by
  have hM : PRG[32]? = some M_32 := rfl
  refine Pl.sg1 (pc' := 32) (ls' := [(5, .int (0 : Int32)), (0, .ref 22), (1, .int x1), (2, .int x2), (3, .int x3), (4, .int x4)]) (st' := []) (σ' := (s1 (s1 (s1 (s1 σ 23 0 x1) 23 1 x2) 23 2 x3) 23 3 x4)) hM 21 rfl ?_
  exact Pl.live (l' := [(0, .ref 22), (5, .int (0 : Int32))]) hM lv_32 ⟨show ndL _ from (by decide : List.Nodup ([5, 0, 1, 2, 3, 4] : List Nat)), show ndL _ from (by decide : List.Nodup ([0, 5] : List Nat)), by rw [lva_32_32]; exact List.forall_mem_cons.mpr ⟨rfl, List.forall_mem_cons.mpr ⟨rfl, fun _ h => absurd h List.not_mem_nil⟩⟩⟩ h
set_option maxRecDepth 100000 in
theorem p_32_32 {n d : Nat} {Q : Option Value → Sg → Prop} (σ : Sg) (x5 : Int32) (h : (((4 : Int32) ≤ x5 → (∀ σ1, RCx PRG n 31 [.ref 22, .int (0 : Int32)] (s1 (s1 σ 22 2 (1 : Int32)) 22 7 (0 : Int32)) none σ1 → Q none σ1)) ∧ (¬ (4 : Int32) ≤ x5 → (inR x5 4 = true → (inR x5 4 = true → Pl PRG n d 32 32 [(0, .ref 22), (5, .int (x5 + (1 : Int32)))] [] (s1 σ 24 x5.toNatClampNeg (σ.1 23 x5.toNatClampNeg)) Q))))) : Pl PRG (n + 1) d 32 32 [(0, .ref 22), (5, .int x5)] [] σ Q := by
  have hM : PRG[32]? = some M_32 := rfl
  refine Pl.br1 (c := (4 : Int32) ≤ x5) (a := 58) (b := 38) (ls' := [(0, .ref 22), (5, .int x5)]) (st' := []) (σ' := σ) hM 2 rfl (fun c => ?_) (fun c => ?_)
  · replace h := h.1 c
    refine Pl.seg (pc' := 70) (ls' := [(0, .ref 22), (5, .int x5)]) (st' := [.int (0 : Int32), .ref 22]) (σ' := (s1 (s1 σ 22 2 (1 : Int32)) 22 7 (0 : Int32))) hM 8 rfl ?_
    refine Pl.weak (Pl.cV hM rfl rfl (by decide) (Mj := M_31) rfl rfl (fun σ1 hw => ?_))
    replace h := h σ1 hw
    refine Pl.weak (Pl.ret hM rfl rfl h)
  · replace h := h.2 c
    refine Pl.seg (pc' := 50) (ls' := [(0, .ref 22), (5, .int x5)]) (st' := [.int x5, .ref 23, .int x5, .ref 24]) (σ' := σ) hM 6 rfl ?_
    refine Pl.weak (Pl.iald hM rfl rfl (fun hi => ?_))
    replace h := h hi
    refine Pl.weak (Pl.iast hM rfl rfl (fun hi => ?_))
    replace h := h hi
    refine Pl.seg (pc' := 32) (ls' := [(5, .int (x5 + (1 : Int32))), (0, .ref 22)]) (st' := []) (σ' := (s1 σ 24 x5.toNatClampNeg (σ.1 23 x5.toNatClampNeg))) hM 2 rfl ?_
    exact Pl.live (l' := [(0, .ref 22), (5, .int (x5 + (1 : Int32)))]) hM lv_32 ⟨show ndL _ from (by decide : List.Nodup ([5, 0] : List Nat)), show ndL _ from (by decide : List.Nodup ([0, 5] : List Nat)), by rw [lva_32_32]; exact List.forall_mem_cons.mpr ⟨rfl, List.forall_mem_cons.mpr ⟨rfl, fun _ h => absurd h List.not_mem_nil⟩⟩⟩ h
set_option maxRecDepth 100000 in
theorem p_31_0 {n d : Nat} {Q : Option Value → Sg → Prop} (σ : Sg) (x1 : Int32) (h : Q none (s1 (s1 (s1 σ 22 5 x1) 22 6 x1) 22 17 ((σ.1 22 17) + (1 : Int32)))) : Pl PRG (n + 1) d 31 0 [(0, .ref 22), (1, .int x1)] [] σ Q := by
  have hM : PRG[31]? = some M_31 := rfl
  refine Pl.sg1 (pc' := 20) (ls' := [(0, .ref 22), (1, .int x1)]) (st' := []) (σ' := (s1 (s1 (s1 σ 22 5 x1) 22 6 x1) 22 17 ((σ.1 22 17) + (1 : Int32)))) hM 11 rfl ?_
  refine Pl.weak (Pl.ret hM rfl rfl h)
set_option maxRecDepth 100000 in
theorem p_66_0 {n d : Nat} {Q : Option Value → Sg → Prop} (σ : Sg) (h : Q none (s1 (s1 (s1 (s1 σ 22 2 (0 : Int32)) 22 7 (0 : Int32)) 22 6 (-2 : Int32)) 22 17 ((σ.1 22 17) + (1 : Int32)))) : Pl PRG (n + 1) d 66 0 [(0, .ref 22)] [] σ Q := by
  have hM : PRG[66]? = some M_66 := rfl
  refine Pl.sg1 (pc' := 26) (ls' := [(0, .ref 22)]) (st' := []) (σ' := (s1 (s1 (s1 (s1 σ 22 2 (0 : Int32)) 22 7 (0 : Int32)) 22 6 (-2 : Int32)) 22 17 ((σ.1 22 17) + (1 : Int32)))) hM 14 rfl ?_
  refine Pl.weak (Pl.ret hM rfl rfl h)
def LV_63 : List (Nat × List Nat) := [(0, [0, 1]), (1, [0, 1]), (4, [0, 1]), (7, [0, 1]), (8, [0, 1]), (11, [0, 1]), (13, [0, 1]), (16, [0, 1]), (17, [0, 1]), (20, [0, 1]), (21, [0, 1]), (23, [0, 1]), (26, []), (27, [0, 1]), (28, [0, 1]), (31, [0, 1]), (32, [0, 1, 2]), (33, [0, 1, 2]), (36, [0, 1, 2]), (37, [0, 1, 2]), (40, [0, 1, 2]), (41, [0, 1, 2]), (42, [0, 1, 2]), (43, [0, 1, 2]), (46, [0, 1, 2]), (47, [0, 1, 2]), (50, [0, 1, 2]), (51, [0, 1, 2]), (54, [0, 1, 2]), (55, [0, 1, 2]), (56, [0, 1, 2]), (59, [0, 1, 2]), (60, [0, 1, 2]), (63, [0, 1, 2]), (64, [0, 1, 2]), (65, [0, 1, 2]), (66, [0, 1, 2]), (69, [0, 1, 2]), (70, [0, 1, 2]), (73, [0, 1, 2]), (74, [0, 1, 2]), (75, [0, 1, 2]), (76, [0, 1, 2]), (79, [0, 1, 2]), (80, [0, 1, 2]), (81, [0, 1, 2]), (84, [0, 1, 2]), (85, [0, 1, 2]), (88, [0, 1, 2]), (89, [0, 1, 2]), (90, [0, 1, 2]), (93, [0, 1, 2]), (94, [0, 1, 2]), (95, [0, 1, 2]), (98, [0, 1, 2]), (99, [0, 1, 2]), (102, [0, 1, 2]), (103, [0, 1, 2]), (106, [0, 1, 2]), (107, [0, 1, 2]), (110, [0, 1, 2]), (111, [0, 1, 2]), (112, [0, 1, 2]), (115, [0, 1, 2]), (116, [0, 1, 2]), (119, [0, 1, 2]), (120, [0, 1, 2]), (123, [0, 1, 2]), (124, [0, 1, 2]), (125, [0, 1, 2]), (128, [0, 1, 2]), (131, [0, 1, 2]), (132, [0, 1]), (133, [0, 1]), (134, [0, 1]), (137, [0, 1]), (138, [0, 1]), (141, [0, 1]), (142, [0, 1]), (143, [0, 1]), (144, [0, 1]), (147, [0, 1]), (148, [0, 1]), (151, [0, 1]), (152, [0, 1]), (153, [0, 1]), (156, [0, 1]), (157, [0, 1]), (158, [0, 1]), (161, [0, 1]), (162, [0, 1]), (165, [0, 1]), (166, [0, 1]), (169, [0, 1]), (170, [0, 1]), (173, [0, 1]), (174, [0, 1]), (177, [0, 1]), (178, [0, 1]), (181, [0, 1]), (182, [0, 1]), (185, [0, 1]), (186, [0, 1]), (189, [0, 1]), (190, [0, 1]), (193, [0, 1]), (194, [0, 1]), (197, [0, 1]), (198, [0, 1]), (199, [0, 1]), (202, [0, 1]), (203, [0, 1]), (206, [0, 1]), (207, [0, 1]), (208, [0, 1]), (209, [0, 1]), (210, [0]), (211, [0]), (212, [0]), (213, [0]), (214, [0]), (215, [0]), (216, [0]), (217, [0]), (220, [0]), (221, [0]), (222, [0]), (225, [0]), (226, [0]), (229, [0]), (230, [0]), (231, [0]), (234, [0]), (235, [0]), (238, [0]), (239, [0]), (242, [0]), (243, [0]), (244, [0]), (245, [0]), (246, [0]), (247, [0]), (250, [0]), (251, [0]), (252, [0]), (255, [0]), (256, [0]), (257, [0]), (260, [0]), (261, [0]), (262, [0]), (263, [0]), (264, [0]), (267, [0]), (270, [0]), (271, []), (272, []), (275, []), (276, []), (277, []), (280, [])]
set_option maxRecDepth 100000 in
theorem lv_63 : chkLv M_63 LV_63 = true := by decide +kernel
set_option maxRecDepth 100000 in
theorem lva_63_26 : lvA LV_63 26 = [] := by decide +kernel
set_option maxRecDepth 100000 in
theorem lva_63_262 : lvA LV_63 262 = [0] := by decide +kernel
set_option maxRecDepth 100000 in
theorem p_63_0 {n d : Nat} {Q : Option Value → Sg → Prop} (σ : Sg) (x1 : Int32) (h : (((σ.1 22 6) < 0 → Pl PRG n d 63 26 [] [] σ Q) ∧ (¬ (σ.1 22 6) < 0 → (((16 : Int32) ≤ (σ.1 22 7) → Pl PRG n d 63 26 [] [] σ Q) ∧ (¬ (16 : Int32) ≤ (σ.1 22 7) → ((x1 < 0 → Pl PRG n d 63 26 [] [] σ Q) ∧ (¬ x1 < 0 → ((x1 < (16 : Int32) → (∀ w2 σ1, RCx PRG n 34 [.ref 22] σ (some (.int w2)) σ1 → (inR (σ1.1 22 7) 16 = true → (inR (σ1.1 22 7) 16 = true → (inR (σ1.1 22 7) 16 = true → (∀ w4 σ3, RCx PRG n 37 [.ref 22, .int x1, .int w2] (s1 (s1 (s1 σ1 25 (σ1.1 22 7).toNatClampNeg x1) 26 (σ1.1 22 7).toNatClampNeg (σ1.1 22 6)) 28 (σ1.1 22 7).toNatClampNeg w2) (some (.int w4)) σ3 → (inR (σ1.1 22 7) 16 = true → (∀ w6 σ5, RCx PRG n 36 [.ref 22, .int x1] (s1 σ3 27 (σ1.1 22 7).toNatClampNeg w4) (some (.int w6)) σ5 → (inR (σ3.1 22 7) 16 = true → (inR (σ5.1 22 7) 16 = true → (((σ5.1 27 (σ5.1 22 7).toNatClampNeg) = (2 : Int32) → (inR (σ5.1 22 6) 4 = true → (inR w2 4 = true → ((((σ5.1 24 (σ5.1 22 6).toNatClampNeg) &&& (σ5.1 9 w2.toNatClampNeg)) = 0 → (inR (σ5.1 22 7) 16 = true → (∀ w15 σ14, RCx PRG n 39 [.ref 22, .int x1] (s1 (s1 σ5 29 (σ3.1 22 7).toNatClampNeg w6) 30 (σ5.1 22 7).toNatClampNeg (0 : Int32)) (some (.int w15)) σ14 → (inR (σ5.1 22 7) 16 = true → (inR (σ14.1 22 6) 4 = true → (∀ σ16, RCx PRG n 11 [.ref 12, .int (σ14.1 24 (σ14.1 22 6).toNatClampNeg)] (s1 σ14 31 (σ5.1 22 7).toNatClampNeg w15) none σ16 → (inR (σ16.1 22 7) 16 = true → (∀ w18 σ17, RCx PRG n 13 [.ref 12, .int (σ16.1 31 (σ16.1 22 7).toNatClampNeg)] σ16 (some (.int w18)) σ17 → (inR (σ16.1 22 7) 16 = true → (inR (σ17.1 22 6) 4 = true → (inR (σ17.1 22 6) 4 = true → (((((σ17.1 22 7) + (1 : Int32)) - ((σ17.1 22 7) + (1 : Int32)) / (4 : Int32) * (4 : Int32)) = 0 → (∀ w20 σ19, RCx PRG n 45 [.ref 22, .int (((σ17.1 22 7) + (1 : Int32)) - (4 : Int32))] (s1 (s1 (s1 σ17 32 (σ16.1 22 7).toNatClampNeg w18) 24 (σ17.1 22 6).toNatClampNeg ((σ17.1 24 (σ17.1 22 6).toNatClampNeg) &&& (((1 : Int32) <<< (x1 &&& 31)) ^^^ (-1 : Int32)))) 22 7 ((σ17.1 22 7) + (1 : Int32))) (some (.int w20)) σ19 → (inR w20 16 = true → (inR ((((σ17.1 22 7) + (1 : Int32)) / (4 : Int32)) - (1 : Int32)) 4 = true → Pl PRG n d 63 262 [(0, .ref 22)] [] (s1 σ19 33 ((((σ17.1 22 7) + (1 : Int32)) / (4 : Int32)) - (1 : Int32)).toNatClampNeg (σ19.1 26 w20.toNatClampNeg)) Q)))) ∧ (¬ (((σ17.1 22 7) + (1 : Int32)) - ((σ17.1 22 7) + (1 : Int32)) / (4 : Int32) * (4 : Int32)) = 0 → Pl PRG n d 63 262 [(0, .ref 22)] [] (s1 (s1 (s1 σ17 32 (σ16.1 22 7).toNatClampNeg w18) 24 (σ17.1 22 6).toNatClampNeg ((σ17.1 24 (σ17.1 22 6).toNatClampNeg) &&& (((1 : Int32) <<< (x1 &&& 31)) ^^^ (-1 : Int32)))) 22 7 ((σ17.1 22 7) + (1 : Int32))) Q))))))))))))) ∧ (¬ ((σ5.1 24 (σ5.1 22 6).toNatClampNeg) &&& (σ5.1 9 w2.toNatClampNeg)) = 0 → (inR (σ5.1 22 7) 16 = true → (∀ w22 σ21, RCx PRG n 39 [.ref 22, .int x1] (s1 (s1 σ5 29 (σ3.1 22 7).toNatClampNeg w6) 30 (σ5.1 22 7).toNatClampNeg (1 : Int32)) (some (.int w22)) σ21 → (inR (σ5.1 22 7) 16 = true → (inR (σ21.1 22 6) 4 = true → (∀ σ23, RCx PRG n 11 [.ref 12, .int (σ21.1 24 (σ21.1 22 6).toNatClampNeg)] (s1 σ21 31 (σ5.1 22 7).toNatClampNeg w22) none σ23 → (inR (σ23.1 22 7) 16 = true → (∀ w25 σ24, RCx PRG n 13 [.ref 12, .int (σ23.1 31 (σ23.1 22 7).toNatClampNeg)] σ23 (some (.int w25)) σ24 → (inR (σ23.1 22 7) 16 = true → (inR (σ24.1 22 6) 4 = true → (inR (σ24.1 22 6) 4 = true → (((((σ24.1 22 7) + (1 : Int32)) - ((σ24.1 22 7) + (1 : Int32)) / (4 : Int32) * (4 : Int32)) = 0 → (∀ w27 σ26, RCx PRG n 45 [.ref 22, .int (((σ24.1 22 7) + (1 : Int32)) - (4 : Int32))] (s1 (s1 (s1 σ24 32 (σ23.1 22 7).toNatClampNeg w25) 24 (σ24.1 22 6).toNatClampNeg ((σ24.1 24 (σ24.1 22 6).toNatClampNeg) &&& (((1 : Int32) <<< (x1 &&& 31)) ^^^ (-1 : Int32)))) 22 7 ((σ24.1 22 7) + (1 : Int32))) (some (.int w27)) σ26 → (inR w27 16 = true → (inR ((((σ24.1 22 7) + (1 : Int32)) / (4 : Int32)) - (1 : Int32)) 4 = true → Pl PRG n d 63 262 [(0, .ref 22)] [] (s1 σ26 33 ((((σ24.1 22 7) + (1 : Int32)) / (4 : Int32)) - (1 : Int32)).toNatClampNeg (σ26.1 26 w27.toNatClampNeg)) Q)))) ∧ (¬ (((σ24.1 22 7) + (1 : Int32)) - ((σ24.1 22 7) + (1 : Int32)) / (4 : Int32) * (4 : Int32)) = 0 → Pl PRG n d 63 262 [(0, .ref 22)] [] (s1 (s1 (s1 σ24 32 (σ23.1 22 7).toNatClampNeg w25) 24 (σ24.1 22 6).toNatClampNeg ((σ24.1 24 (σ24.1 22 6).toNatClampNeg) &&& (((1 : Int32) <<< (x1 &&& 31)) ^^^ (-1 : Int32)))) 22 7 ((σ24.1 22 7) + (1 : Int32))) Q))))))))))))))))) ∧ (¬ (σ5.1 27 (σ5.1 22 7).toNatClampNeg) = (2 : Int32) → (inR (σ5.1 22 7) 16 = true → (∀ w8 σ7, RCx PRG n 39 [.ref 22, .int x1] (s1 (s1 σ5 29 (σ3.1 22 7).toNatClampNeg w6) 30 (σ5.1 22 7).toNatClampNeg (0 : Int32)) (some (.int w8)) σ7 → (inR (σ5.1 22 7) 16 = true → (inR (σ7.1 22 6) 4 = true → (∀ σ9, RCx PRG n 11 [.ref 12, .int (σ7.1 24 (σ7.1 22 6).toNatClampNeg)] (s1 σ7 31 (σ5.1 22 7).toNatClampNeg w8) none σ9 → (inR (σ9.1 22 7) 16 = true → (∀ w11 σ10, RCx PRG n 13 [.ref 12, .int (σ9.1 31 (σ9.1 22 7).toNatClampNeg)] σ9 (some (.int w11)) σ10 → (inR (σ9.1 22 7) 16 = true → (inR (σ10.1 22 6) 4 = true → (inR (σ10.1 22 6) 4 = true → (((((σ10.1 22 7) + (1 : Int32)) - ((σ10.1 22 7) + (1 : Int32)) / (4 : Int32) * (4 : Int32)) = 0 → (∀ w13 σ12, RCx PRG n 45 [.ref 22, .int (((σ10.1 22 7) + (1 : Int32)) - (4 : Int32))] (s1 (s1 (s1 σ10 32 (σ9.1 22 7).toNatClampNeg w11) 24 (σ10.1 22 6).toNatClampNeg ((σ10.1 24 (σ10.1 22 6).toNatClampNeg) &&& (((1 : Int32) <<< (x1 &&& 31)) ^^^ (-1 : Int32)))) 22 7 ((σ10.1 22 7) + (1 : Int32))) (some (.int w13)) σ12 → (inR w13 16 = true → (inR ((((σ10.1 22 7) + (1 : Int32)) / (4 : Int32)) - (1 : Int32)) 4 = true → Pl PRG n d 63 262 [(0, .ref 22)] [] (s1 σ12 33 ((((σ10.1 22 7) + (1 : Int32)) / (4 : Int32)) - (1 : Int32)).toNatClampNeg (σ12.1 26 w13.toNatClampNeg)) Q)))) ∧ (¬ (((σ10.1 22 7) + (1 : Int32)) - ((σ10.1 22 7) + (1 : Int32)) / (4 : Int32) * (4 : Int32)) = 0 → Pl PRG n d 63 262 [(0, .ref 22)] [] (s1 (s1 (s1 σ10 32 (σ9.1 22 7).toNatClampNeg w11) 24 (σ10.1 22 6).toNatClampNeg ((σ10.1 24 (σ10.1 22 6).toNatClampNeg) &&& (((1 : Int32) <<< (x1 &&& 31)) ^^^ (-1 : Int32)))) 22 7 ((σ10.1 22 7) + (1 : Int32))) Q)))))))))))))))))))))))) ∧ (¬ x1 < (16 : Int32) → Pl PRG n d 63 26 [] [] σ Q))))))))) : Pl PRG (n + 1) d 63 0 [(0, .ref 22), (1, .int x1)] [] σ Q := by
  have hM : PRG[63]? = some M_63 := rfl
  refine Pl.br1 (c := (σ.1 22 6) < 0) (a := 26) (b := 7) (ls' := [(0, .ref 22), (1, .int x1)]) (st' := []) (σ' := σ) hM 2 rfl (fun c => ?_) (fun c => ?_)
  · replace h := h.1 c
    exact Pl.live (l' := []) hM lv_63 ⟨show ndL _ from (by decide : List.Nodup ([0, 1] : List Nat)), show ndL _ from (by decide : List.Nodup ([] : List Nat)), by rw [lva_63_26]; exact fun _ h => absurd h List.not_mem_nil⟩ h
  · replace h := h.2 c
    refine Pl.br (c := (16 : Int32) ≤ (σ.1 22 7)) (a := 26) (b := 16) (ls' := [(0, .ref 22), (1, .int x1)]) (st' := []) (σ' := σ) hM 4 rfl (fun c => ?_) (fun c => ?_)
    · replace h := h.1 c
      exact Pl.live (l' := []) hM lv_63 ⟨show ndL _ from (by decide : List.Nodup ([0, 1] : List Nat)), show ndL _ from (by decide : List.Nodup ([] : List Nat)), by rw [lva_63_26]; exact fun _ h => absurd h List.not_mem_nil⟩ h
    · replace h := h.2 c
      refine Pl.br (c := x1 < 0) (a := 26) (b := 20) (ls' := [(0, .ref 22), (1, .int x1)]) (st' := []) (σ' := σ) hM 2 rfl (fun c => ?_) (fun c => ?_)
      · replace h := h.1 c
        exact Pl.live (l' := []) hM lv_63 ⟨show ndL _ from (by decide : List.Nodup ([0, 1] : List Nat)), show ndL _ from (by decide : List.Nodup ([] : List Nat)), by rw [lva_63_26]; exact fun _ h => absurd h List.not_mem_nil⟩ h
      · replace h := h.2 c
        refine Pl.br (c := x1 < (16 : Int32)) (a := 27) (b := 26) (ls' := [(0, .ref 22), (1, .int x1)]) (st' := []) (σ' := σ) hM 3 rfl (fun c => ?_) (fun c => ?_)
        · replace h := h.1 c
          refine Pl.seg (pc' := 28) (ls' := [(0, .ref 22), (1, .int x1)]) (st' := [.ref 22]) (σ' := σ) hM 1 rfl ?_
          refine Pl.weak (Pl.cI hM rfl rfl (by decide) (Mj := M_34) rfl rfl (fun w2 σ1 hw => ?_))
          replace h := h w2 σ1 hw
          refine Pl.seg (pc' := 41) (ls' := [(2, .int w2), (0, .ref 22), (1, .int x1)]) (st' := [.int x1, .int (σ1.1 22 7), .ref 25]) (σ' := σ1) hM 6 rfl ?_
          refine Pl.weak (Pl.iast hM rfl rfl (fun hi => ?_))
          replace h := h hi
          refine Pl.seg (pc' := 54) (ls' := [(2, .int w2), (0, .ref 22), (1, .int x1)]) (st' := [.int (σ1.1 22 6), .int (σ1.1 22 7), .ref 26]) (σ' := (s1 σ1 25 (σ1.1 22 7).toNatClampNeg x1)) hM 6 rfl ?_
          refine Pl.weak (Pl.iast hM rfl rfl (fun hi => ?_))
          replace h := h hi
          refine Pl.seg (pc' := 64) (ls' := [(2, .int w2), (0, .ref 22), (1, .int x1)]) (st' := [.int w2, .int (σ1.1 22 7), .ref 28]) (σ' := (s1 (s1 σ1 25 (σ1.1 22 7).toNatClampNeg x1) 26 (σ1.1 22 7).toNatClampNeg (σ1.1 22 6))) hM 5 rfl ?_
          refine Pl.weak (Pl.iast hM rfl rfl (fun hi => ?_))
          replace h := h hi
          refine Pl.seg (pc' := 76) (ls' := [(2, .int w2), (0, .ref 22), (1, .int x1)]) (st' := [.int w2, .int x1, .ref 22, .int (σ1.1 22 7), .ref 27]) (σ' := (s1 (s1 (s1 σ1 25 (σ1.1 22 7).toNatClampNeg x1) 26 (σ1.1 22 7).toNatClampNeg (σ1.1 22 6)) 28 (σ1.1 22 7).toNatClampNeg w2)) hM 7 rfl ?_
          refine Pl.weak (Pl.cI hM rfl rfl (by decide) (Mj := M_37) rfl rfl (fun w4 σ3 hw => ?_))
          replace h := h w4 σ3 hw
          refine Pl.weak (Pl.iast hM rfl rfl (fun hi => ?_))
          replace h := h hi
          refine Pl.seg (pc' := 90) (ls' := [(2, .int w2), (0, .ref 22), (1, .int x1)]) (st' := [.int x1, .ref 22, .int (σ3.1 22 7), .ref 29]) (σ' := (s1 σ3 27 (σ1.1 22 7).toNatClampNeg w4)) hM 6 rfl ?_
          refine Pl.weak (Pl.cI hM rfl rfl (by decide) (Mj := M_36) rfl rfl (fun w6 σ5 hw => ?_))
          replace h := h w6 σ5 hw
          refine Pl.weak (Pl.iast hM rfl rfl (fun hi => ?_))
          replace h := h hi
          refine Pl.seg (pc' := 110) (ls' := [(2, .int w2), (0, .ref 22), (1, .int x1)]) (st' := [.int (σ5.1 22 7), .ref 27, .int (σ5.1 22 7), .ref 30]) (σ' := (s1 σ5 29 (σ3.1 22 7).toNatClampNeg w6)) hM 8 rfl ?_
          refine Pl.weak (Pl.iald hM rfl rfl (fun hi => ?_))
          replace h := h hi
          refine Pl.brN (c := (σ5.1 27 (σ5.1 22 7).toNatClampNeg) = (2 : Int32)) (a := 141) (b := 115) (ls' := [(2, .int w2), (0, .ref 22), (1, .int x1)]) (st' := [.int (σ5.1 22 7), .ref 30]) (σ' := (s1 σ5 29 (σ3.1 22 7).toNatClampNeg w6)) hM 2 rfl (fun c => ?_) (fun c => ?_)
          · replace h := h.2 c
            refine Pl.seg (pc' := 142) (ls' := [(2, .int w2), (0, .ref 22), (1, .int x1)]) (st' := [.int (0 : Int32), .int (σ5.1 22 7), .ref 30]) (σ' := (s1 σ5 29 (σ3.1 22 7).toNatClampNeg w6)) hM 1 rfl ?_
            refine Pl.weak (Pl.iast hM rfl rfl (fun hi => ?_))
            replace h := h hi
            refine Pl.seg (pc' := 153) (ls' := [(2, .int w2), (0, .ref 22), (1, .int x1)]) (st' := [.int x1, .ref 22, .int (σ5.1 22 7), .ref 31]) (σ' := (s1 (s1 σ5 29 (σ3.1 22 7).toNatClampNeg w6) 30 (σ5.1 22 7).toNatClampNeg (0 : Int32))) hM 6 rfl ?_
            refine Pl.weak (Pl.cI hM rfl rfl (by decide) (Mj := M_39) rfl rfl (fun w8 σ7 hw => ?_))
            replace h := h w8 σ7 hw
            refine Pl.weak (Pl.iast hM rfl rfl (fun hi => ?_))
            replace h := h hi
            refine Pl.seg (pc' := 169) (ls' := [(2, .int w2), (0, .ref 22), (1, .int x1)]) (st' := [.int (σ7.1 22 6), .ref 24, .ref 12]) (σ' := (s1 σ7 31 (σ5.1 22 7).toNatClampNeg w8)) hM 6 rfl ?_
            refine Pl.weak (Pl.iald hM rfl rfl (fun hi => ?_))
            replace h := h hi
            refine Pl.weak (Pl.cV hM rfl rfl (by decide) (Mj := M_11) rfl rfl (fun σ9 hw => ?_))
            replace h := h σ9 hw
            refine Pl.seg (pc' := 193) (ls' := [(2, .int w2), (0, .ref 22), (1, .int x1)]) (st' := [.int (σ9.1 22 7), .ref 31, .ref 12, .int (σ9.1 22 7), .ref 32]) (σ' := σ9) hM 10 rfl ?_
            refine Pl.weak (Pl.iald hM rfl rfl (fun hi => ?_))
            replace h := h hi
            refine Pl.weak (Pl.cI hM rfl rfl (by decide) (Mj := M_13) rfl rfl (fun w11 σ10 hw => ?_))
            replace h := h w11 σ10 hw
            refine Pl.weak (Pl.iast hM rfl rfl (fun hi => ?_))
            replace h := h hi
            refine Pl.seg (pc' := 207) (ls' := [(2, .int w2), (0, .ref 22), (1, .int x1)]) (st' := [.int (σ10.1 22 6), .ref 24, .int (σ10.1 22 6), .ref 24]) (σ' := (s1 σ10 32 (σ9.1 22 7).toNatClampNeg w11)) hM 5 rfl ?_
            refine Pl.weak (Pl.iald hM rfl rfl (fun hi => ?_))
            replace h := h hi
            refine Pl.seg (pc' := 214) (ls' := [(2, .int w2), (0, .ref 22), (1, .int x1)]) (st' := [.int ((σ10.1 24 (σ10.1 22 6).toNatClampNeg) &&& (((1 : Int32) <<< (x1 &&& 31)) ^^^ (-1 : Int32))), .int (σ10.1 22 6), .ref 24]) (σ' := (s1 σ10 32 (σ9.1 22 7).toNatClampNeg w11)) hM 6 rfl ?_
            refine Pl.weak (Pl.iast hM rfl rfl (fun hi => ?_))
            replace h := h hi
            refine Pl.brN (c := (((σ10.1 22 7) + (1 : Int32)) - ((σ10.1 22 7) + (1 : Int32)) / (4 : Int32) * (4 : Int32)) = 0) (a := 262) (b := 234) (ls' := [(2, .int w2), (0, .ref 22), (1, .int x1)]) (st' := []) (σ' := (s1 (s1 (s1 σ10 32 (σ9.1 22 7).toNatClampNeg w11) 24 (σ10.1 22 6).toNatClampNeg ((σ10.1 24 (σ10.1 22 6).toNatClampNeg) &&& (((1 : Int32) <<< (x1 &&& 31)) ^^^ (-1 : Int32)))) 22 7 ((σ10.1 22 7) + (1 : Int32)))) hM 11 rfl (fun c => ?_) (fun c => ?_)
            · replace h := h.2 c
              exact Pl.live (l' := [(0, .ref 22)]) hM lv_63 ⟨show ndL _ from (by decide : List.Nodup ([2, 0, 1] : List Nat)), show ndL _ from (by decide : List.Nodup ([0] : List Nat)), by rw [lva_63_262]; exact List.forall_mem_cons.mpr ⟨rfl, fun _ h => absurd h List.not_mem_nil⟩⟩ h
            · replace h := h.1 c
              refine Pl.seg (pc' := 257) (ls' := [(2, .int w2), (0, .ref 22), (1, .int x1)]) (st' := [.int (((σ10.1 22 7) + (1 : Int32)) - (4 : Int32)), .ref 22, .ref 26, .int ((((σ10.1 22 7) + (1 : Int32)) / (4 : Int32)) - (1 : Int32)), .ref 33]) (σ' := (s1 (s1 (s1 σ10 32 (σ9.1 22 7).toNatClampNeg w11) 24 (σ10.1 22 6).toNatClampNeg ((σ10.1 24 (σ10.1 22 6).toNatClampNeg) &&& (((1 : Int32) <<< (x1 &&& 31)) ^^^ (-1 : Int32)))) 22 7 ((σ10.1 22 7) + (1 : Int32)))) hM 15 rfl ?_
              refine Pl.weak (Pl.cI hM rfl rfl (by decide) (Mj := M_45) rfl rfl (fun w13 σ12 hw => ?_))
              replace h := h w13 σ12 hw
              refine Pl.weak (Pl.iald hM rfl rfl (fun hi => ?_))
              replace h := h hi
              refine Pl.weak (Pl.iast hM rfl rfl (fun hi => ?_))
              replace h := h hi
              exact Pl.live (l' := [(0, .ref 22)]) hM lv_63 ⟨show ndL _ from (by decide : List.Nodup ([2, 0, 1] : List Nat)), show ndL _ from (by decide : List.Nodup ([0] : List Nat)), by rw [lva_63_262]; exact List.forall_mem_cons.mpr ⟨rfl, fun _ h => absurd h List.not_mem_nil⟩⟩ h
          · replace h := h.1 c
            refine Pl.seg (pc' := 123) (ls' := [(2, .int w2), (0, .ref 22), (1, .int x1)]) (st' := [.int (σ5.1 22 6), .ref 24, .int (σ5.1 22 7), .ref 30]) (σ' := (s1 σ5 29 (σ3.1 22 7).toNatClampNeg w6)) hM 4 rfl ?_
            refine Pl.weak (Pl.iald hM rfl rfl (fun hi => ?_))
            replace h := h hi
            refine Pl.seg (pc' := 132) (ls' := [(2, .int w2), (0, .ref 22), (1, .int x1)]) (st' := [.int w2, .ref 9, .int (σ5.1 24 (σ5.1 22 6).toNatClampNeg), .int (σ5.1 22 7), .ref 30]) (σ' := (s1 σ5 29 (σ3.1 22 7).toNatClampNeg w6)) hM 4 rfl ?_
            refine Pl.weak (Pl.iald hM rfl rfl (fun hi => ?_))
            replace h := h hi
            refine Pl.br (c := ((σ5.1 24 (σ5.1 22 6).toNatClampNeg) &&& (σ5.1 9 w2.toNatClampNeg)) = 0) (a := 141) (b := 137) (ls' := [(2, .int w2), (0, .ref 22), (1, .int x1)]) (st' := [.int (σ5.1 22 7), .ref 30]) (σ' := (s1 σ5 29 (σ3.1 22 7).toNatClampNeg w6)) hM 2 rfl (fun c => ?_) (fun c => ?_)
            · replace h := h.1 c
              refine Pl.seg (pc' := 142) (ls' := [(2, .int w2), (0, .ref 22), (1, .int x1)]) (st' := [.int (0 : Int32), .int (σ5.1 22 7), .ref 30]) (σ' := (s1 σ5 29 (σ3.1 22 7).toNatClampNeg w6)) hM 1 rfl ?_
              refine Pl.weak (Pl.iast hM rfl rfl (fun hi => ?_))
              replace h := h hi
              refine Pl.seg (pc' := 153) (ls' := [(2, .int w2), (0, .ref 22), (1, .int x1)]) (st' := [.int x1, .ref 22, .int (σ5.1 22 7), .ref 31]) (σ' := (s1 (s1 σ5 29 (σ3.1 22 7).toNatClampNeg w6) 30 (σ5.1 22 7).toNatClampNeg (0 : Int32))) hM 6 rfl ?_
              refine Pl.weak (Pl.cI hM rfl rfl (by decide) (Mj := M_39) rfl rfl (fun w15 σ14 hw => ?_))
              replace h := h w15 σ14 hw
              refine Pl.weak (Pl.iast hM rfl rfl (fun hi => ?_))
              replace h := h hi
              refine Pl.seg (pc' := 169) (ls' := [(2, .int w2), (0, .ref 22), (1, .int x1)]) (st' := [.int (σ14.1 22 6), .ref 24, .ref 12]) (σ' := (s1 σ14 31 (σ5.1 22 7).toNatClampNeg w15)) hM 6 rfl ?_
              refine Pl.weak (Pl.iald hM rfl rfl (fun hi => ?_))
              replace h := h hi
              refine Pl.weak (Pl.cV hM rfl rfl (by decide) (Mj := M_11) rfl rfl (fun σ16 hw => ?_))
              replace h := h σ16 hw
              refine Pl.seg (pc' := 193) (ls' := [(2, .int w2), (0, .ref 22), (1, .int x1)]) (st' := [.int (σ16.1 22 7), .ref 31, .ref 12, .int (σ16.1 22 7), .ref 32]) (σ' := σ16) hM 10 rfl ?_
              refine Pl.weak (Pl.iald hM rfl rfl (fun hi => ?_))
              replace h := h hi
              refine Pl.weak (Pl.cI hM rfl rfl (by decide) (Mj := M_13) rfl rfl (fun w18 σ17 hw => ?_))
              replace h := h w18 σ17 hw
              refine Pl.weak (Pl.iast hM rfl rfl (fun hi => ?_))
              replace h := h hi
              refine Pl.seg (pc' := 207) (ls' := [(2, .int w2), (0, .ref 22), (1, .int x1)]) (st' := [.int (σ17.1 22 6), .ref 24, .int (σ17.1 22 6), .ref 24]) (σ' := (s1 σ17 32 (σ16.1 22 7).toNatClampNeg w18)) hM 5 rfl ?_
              refine Pl.weak (Pl.iald hM rfl rfl (fun hi => ?_))
              replace h := h hi
              refine Pl.seg (pc' := 214) (ls' := [(2, .int w2), (0, .ref 22), (1, .int x1)]) (st' := [.int ((σ17.1 24 (σ17.1 22 6).toNatClampNeg) &&& (((1 : Int32) <<< (x1 &&& 31)) ^^^ (-1 : Int32))), .int (σ17.1 22 6), .ref 24]) (σ' := (s1 σ17 32 (σ16.1 22 7).toNatClampNeg w18)) hM 6 rfl ?_
              refine Pl.weak (Pl.iast hM rfl rfl (fun hi => ?_))
              replace h := h hi
              refine Pl.brN (c := (((σ17.1 22 7) + (1 : Int32)) - ((σ17.1 22 7) + (1 : Int32)) / (4 : Int32) * (4 : Int32)) = 0) (a := 262) (b := 234) (ls' := [(2, .int w2), (0, .ref 22), (1, .int x1)]) (st' := []) (σ' := (s1 (s1 (s1 σ17 32 (σ16.1 22 7).toNatClampNeg w18) 24 (σ17.1 22 6).toNatClampNeg ((σ17.1 24 (σ17.1 22 6).toNatClampNeg) &&& (((1 : Int32) <<< (x1 &&& 31)) ^^^ (-1 : Int32)))) 22 7 ((σ17.1 22 7) + (1 : Int32)))) hM 11 rfl (fun c => ?_) (fun c => ?_)
              · replace h := h.2 c
                exact Pl.live (l' := [(0, .ref 22)]) hM lv_63 ⟨show ndL _ from (by decide : List.Nodup ([2, 0, 1] : List Nat)), show ndL _ from (by decide : List.Nodup ([0] : List Nat)), by rw [lva_63_262]; exact List.forall_mem_cons.mpr ⟨rfl, fun _ h => absurd h List.not_mem_nil⟩⟩ h
              · replace h := h.1 c
                refine Pl.seg (pc' := 257) (ls' := [(2, .int w2), (0, .ref 22), (1, .int x1)]) (st' := [.int (((σ17.1 22 7) + (1 : Int32)) - (4 : Int32)), .ref 22, .ref 26, .int ((((σ17.1 22 7) + (1 : Int32)) / (4 : Int32)) - (1 : Int32)), .ref 33]) (σ' := (s1 (s1 (s1 σ17 32 (σ16.1 22 7).toNatClampNeg w18) 24 (σ17.1 22 6).toNatClampNeg ((σ17.1 24 (σ17.1 22 6).toNatClampNeg) &&& (((1 : Int32) <<< (x1 &&& 31)) ^^^ (-1 : Int32)))) 22 7 ((σ17.1 22 7) + (1 : Int32)))) hM 15 rfl ?_
                refine Pl.weak (Pl.cI hM rfl rfl (by decide) (Mj := M_45) rfl rfl (fun w20 σ19 hw => ?_))
                replace h := h w20 σ19 hw
                refine Pl.weak (Pl.iald hM rfl rfl (fun hi => ?_))
                replace h := h hi
                refine Pl.weak (Pl.iast hM rfl rfl (fun hi => ?_))
                replace h := h hi
                exact Pl.live (l' := [(0, .ref 22)]) hM lv_63 ⟨show ndL _ from (by decide : List.Nodup ([2, 0, 1] : List Nat)), show ndL _ from (by decide : List.Nodup ([0] : List Nat)), by rw [lva_63_262]; exact List.forall_mem_cons.mpr ⟨rfl, fun _ h => absurd h List.not_mem_nil⟩⟩ h
            · replace h := h.2 c
              refine Pl.seg (pc' := 142) (ls' := [(2, .int w2), (0, .ref 22), (1, .int x1)]) (st' := [.int (1 : Int32), .int (σ5.1 22 7), .ref 30]) (σ' := (s1 σ5 29 (σ3.1 22 7).toNatClampNeg w6)) hM 2 rfl ?_
              refine Pl.weak (Pl.iast hM rfl rfl (fun hi => ?_))
              replace h := h hi
              refine Pl.seg (pc' := 153) (ls' := [(2, .int w2), (0, .ref 22), (1, .int x1)]) (st' := [.int x1, .ref 22, .int (σ5.1 22 7), .ref 31]) (σ' := (s1 (s1 σ5 29 (σ3.1 22 7).toNatClampNeg w6) 30 (σ5.1 22 7).toNatClampNeg (1 : Int32))) hM 6 rfl ?_
              refine Pl.weak (Pl.cI hM rfl rfl (by decide) (Mj := M_39) rfl rfl (fun w22 σ21 hw => ?_))
              replace h := h w22 σ21 hw
              refine Pl.weak (Pl.iast hM rfl rfl (fun hi => ?_))
              replace h := h hi
              refine Pl.seg (pc' := 169) (ls' := [(2, .int w2), (0, .ref 22), (1, .int x1)]) (st' := [.int (σ21.1 22 6), .ref 24, .ref 12]) (σ' := (s1 σ21 31 (σ5.1 22 7).toNatClampNeg w22)) hM 6 rfl ?_
              refine Pl.weak (Pl.iald hM rfl rfl (fun hi => ?_))
              replace h := h hi
              refine Pl.weak (Pl.cV hM rfl rfl (by decide) (Mj := M_11) rfl rfl (fun σ23 hw => ?_))
              replace h := h σ23 hw
              refine Pl.seg (pc' := 193) (ls' := [(2, .int w2), (0, .ref 22), (1, .int x1)]) (st' := [.int (σ23.1 22 7), .ref 31, .ref 12, .int (σ23.1 22 7), .ref 32]) (σ' := σ23) hM 10 rfl ?_
              refine Pl.weak (Pl.iald hM rfl rfl (fun hi => ?_))
              replace h := h hi
              refine Pl.weak (Pl.cI hM rfl rfl (by decide) (Mj := M_13) rfl rfl (fun w25 σ24 hw => ?_))
              replace h := h w25 σ24 hw
              refine Pl.weak (Pl.iast hM rfl rfl (fun hi => ?_))
              replace h := h hi
              refine Pl.seg (pc' := 207) (ls' := [(2, .int w2), (0, .ref 22), (1, .int x1)]) (st' := [.int (σ24.1 22 6), .ref 24, .int (σ24.1 22 6), .ref 24]) (σ' := (s1 σ24 32 (σ23.1 22 7).toNatClampNeg w25)) hM 5 rfl ?_
              refine Pl.weak (Pl.iald hM rfl rfl (fun hi => ?_))
              replace h := h hi
              refine Pl.seg (pc' := 214) (ls' := [(2, .int w2), (0, .ref 22), (1, .int x1)]) (st' := [.int ((σ24.1 24 (σ24.1 22 6).toNatClampNeg) &&& (((1 : Int32) <<< (x1 &&& 31)) ^^^ (-1 : Int32))), .int (σ24.1 22 6), .ref 24]) (σ' := (s1 σ24 32 (σ23.1 22 7).toNatClampNeg w25)) hM 6 rfl ?_
              refine Pl.weak (Pl.iast hM rfl rfl (fun hi => ?_))
              replace h := h hi
              refine Pl.brN (c := (((σ24.1 22 7) + (1 : Int32)) - ((σ24.1 22 7) + (1 : Int32)) / (4 : Int32) * (4 : Int32)) = 0) (a := 262) (b := 234) (ls' := [(2, .int w2), (0, .ref 22), (1, .int x1)]) (st' := []) (σ' := (s1 (s1 (s1 σ24 32 (σ23.1 22 7).toNatClampNeg w25) 24 (σ24.1 22 6).toNatClampNeg ((σ24.1 24 (σ24.1 22 6).toNatClampNeg) &&& (((1 : Int32) <<< (x1 &&& 31)) ^^^ (-1 : Int32)))) 22 7 ((σ24.1 22 7) + (1 : Int32)))) hM 11 rfl (fun c => ?_) (fun c => ?_)
              · replace h := h.2 c
                exact Pl.live (l' := [(0, .ref 22)]) hM lv_63 ⟨show ndL _ from (by decide : List.Nodup ([2, 0, 1] : List Nat)), show ndL _ from (by decide : List.Nodup ([0] : List Nat)), by rw [lva_63_262]; exact List.forall_mem_cons.mpr ⟨rfl, fun _ h => absurd h List.not_mem_nil⟩⟩ h
              · replace h := h.1 c
                refine Pl.seg (pc' := 257) (ls' := [(2, .int w2), (0, .ref 22), (1, .int x1)]) (st' := [.int (((σ24.1 22 7) + (1 : Int32)) - (4 : Int32)), .ref 22, .ref 26, .int ((((σ24.1 22 7) + (1 : Int32)) / (4 : Int32)) - (1 : Int32)), .ref 33]) (σ' := (s1 (s1 (s1 σ24 32 (σ23.1 22 7).toNatClampNeg w25) 24 (σ24.1 22 6).toNatClampNeg ((σ24.1 24 (σ24.1 22 6).toNatClampNeg) &&& (((1 : Int32) <<< (x1 &&& 31)) ^^^ (-1 : Int32)))) 22 7 ((σ24.1 22 7) + (1 : Int32)))) hM 15 rfl ?_
                refine Pl.weak (Pl.cI hM rfl rfl (by decide) (Mj := M_45) rfl rfl (fun w27 σ26 hw => ?_))
                replace h := h w27 σ26 hw
                refine Pl.weak (Pl.iald hM rfl rfl (fun hi => ?_))
                replace h := h hi
                refine Pl.weak (Pl.iast hM rfl rfl (fun hi => ?_))
                replace h := h hi
                exact Pl.live (l' := [(0, .ref 22)]) hM lv_63 ⟨show ndL _ from (by decide : List.Nodup ([2, 0, 1] : List Nat)), show ndL _ from (by decide : List.Nodup ([0] : List Nat)), by rw [lva_63_262]; exact List.forall_mem_cons.mpr ⟨rfl, fun _ h => absurd h List.not_mem_nil⟩⟩ h
        · replace h := h.2 c
          exact Pl.live (l' := []) hM lv_63 ⟨show ndL _ from (by decide : List.Nodup ([0, 1] : List Nat)), show ndL _ from (by decide : List.Nodup ([] : List Nat)), by rw [lva_63_26]; exact fun _ h => absurd h List.not_mem_nil⟩ h
set_option maxRecDepth 100000 in
theorem p_63_26 {n d : Nat} {Q : Option Value → Sg → Prop} (σ : Sg) (h : Q none σ) : Pl PRG (n + 1) d 63 26 [] [] σ Q := by
  have hM : PRG[63]? = some M_63 := rfl
  refine Pl.ret hM rfl rfl h
set_option maxRecDepth 100000 in
theorem p_63_262 {n d : Nat} {Q : Option Value → Sg → Prop} (σ : Sg) (h : (∀ w2 σ1, RCx PRG n 62 [.ref 22] σ (some (.int w2)) σ1 → Q none (s1 (s1 σ1 22 6 w2) 22 17 ((σ1.1 22 17) + (1 : Int32))))) : Pl PRG (n + 1) d 63 262 [(0, .ref 22)] [] σ Q := by
  have hM : PRG[63]? = some M_63 := rfl
  refine Pl.sg1 (pc' := 264) (ls' := [(0, .ref 22)]) (st' := [.ref 22, .ref 22]) (σ' := σ) hM 1 rfl ?_
  refine Pl.weak (Pl.cI hM rfl rfl (by decide) (Mj := M_62) rfl rfl (fun w2 σ1 hw => ?_))
  replace h := h w2 σ1 hw
  refine Pl.seg (pc' := 280) (ls' := [(0, .ref 22)]) (st' := []) (σ' := (s1 (s1 σ1 22 6 w2) 22 17 ((σ1.1 22 17) + (1 : Int32)))) hM 7 rfl ?_
  refine Pl.weak (Pl.ret hM rfl rfl h)
set_option maxRecDepth 100000 in
theorem p_34_0 {n d : Nat} {Q : Option Value → Sg → Prop} (σ : Sg) (h : (((σ.1 22 7) ≤ ((σ.1 22 7) - ((σ.1 22 7) - (σ.1 22 7) / (4 : Int32) * (4 : Int32))) → Q (some (.int (-1 : Int32))) σ) ∧ (¬ (σ.1 22 7) ≤ ((σ.1 22 7) - ((σ.1 22 7) - (σ.1 22 7) / (4 : Int32) * (4 : Int32))) → (inR ((σ.1 22 7) - ((σ.1 22 7) - (σ.1 22 7) / (4 : Int32) * (4 : Int32))) 16 = true → (inR (σ.1 25 ((σ.1 22 7) - ((σ.1 22 7) - (σ.1 22 7) / (4 : Int32) * (4 : Int32))).toNatClampNeg) 16 = true → Q (some (.int (σ.1 10 (σ.1 25 ((σ.1 22 7) - ((σ.1 22 7) - (σ.1 22 7) / (4 : Int32) * (4 : Int32))).toNatClampNeg).toNatClampNeg))) σ))))) : Pl PRG (n + 1) d 34 0 [(0, .ref 22)] [] σ Q := by
  have hM : PRG[34]? = some M_34 := rfl
  refine Pl.br1 (c := (σ.1 22 7) ≤ ((σ.1 22 7) - ((σ.1 22 7) - (σ.1 22 7) / (4 : Int32) * (4 : Int32)))) (a := 37) (b := 20) (ls' := [(1, .int ((σ.1 22 7) - ((σ.1 22 7) - (σ.1 22 7) / (4 : Int32) * (4 : Int32)))), (0, .ref 22)]) (st' := []) (σ' := σ) hM 11 rfl (fun c => ?_) (fun c => ?_)
  · replace h := h.1 c
    refine Pl.seg (pc' := 38) (ls' := [(1, .int ((σ.1 22 7) - ((σ.1 22 7) - (σ.1 22 7) / (4 : Int32) * (4 : Int32)))), (0, .ref 22)]) (st' := [.int (-1 : Int32)]) (σ' := σ) hM 1 rfl ?_
    refine Pl.weak (Pl.ret hM rfl rfl h)
  · replace h := h.2 c
    refine Pl.seg (pc' := 32) (ls' := [(1, .int ((σ.1 22 7) - ((σ.1 22 7) - (σ.1 22 7) / (4 : Int32) * (4 : Int32)))), (0, .ref 22)]) (st' := [.int ((σ.1 22 7) - ((σ.1 22 7) - (σ.1 22 7) / (4 : Int32) * (4 : Int32))), .ref 25, .ref 10]) (σ' := σ) hM 6 rfl ?_
    refine Pl.weak (Pl.iald hM rfl rfl (fun hi => ?_))
    replace h := h hi
    refine Pl.weak (Pl.iald hM rfl rfl (fun hi => ?_))
    replace h := h hi
    refine Pl.seg (pc' := 38) (ls' := [(1, .int ((σ.1 22 7) - ((σ.1 22 7) - (σ.1 22 7) / (4 : Int32) * (4 : Int32)))), (0, .ref 22)]) (st' := [.int (σ.1 10 (σ.1 25 ((σ.1 22 7) - ((σ.1 22 7) - (σ.1 22 7) / (4 : Int32) * (4 : Int32))).toNatClampNeg).toNatClampNeg)]) (σ' := σ) hM 1 rfl ?_
    refine Pl.weak (Pl.ret hM rfl rfl h)
set_option maxRecDepth 100000 in
theorem p_37_0 {n d : Nat} {Q : Option Value → Sg → Prop} (σ : Sg) (x1 x2 : Int32) (h : ((0 ≤ x2 → (inR x1 16 = true → (((σ.1 10 x1.toNatClampNeg) = x2 → Q (some (.int (1 : Int32))) σ) ∧ (¬ (σ.1 10 x1.toNatClampNeg) = x2 → Q (some (.int (2 : Int32))) σ)))) ∧ (¬ 0 ≤ x2 → Q (some (.int (0 : Int32))) σ))) : Pl PRG (n + 1) d 37 0 [(0, .ref 22), (1, .int x1), (2, .int x2)] [] σ Q := by
  have hM : PRG[37]? = some M_37 := rfl
  refine Pl.br1 (c := 0 ≤ x2) (a := 6) (b := 4) (ls' := [(0, .ref 22), (1, .int x1), (2, .int x2)]) (st' := []) (σ' := σ) hM 1 rfl (fun c => ?_) (fun c => ?_)
  · replace h := h.1 c
    refine Pl.seg (pc' := 14) (ls' := [(0, .ref 22), (1, .int x1), (2, .int x2)]) (st' := [.int x1, .ref 10]) (σ' := σ) hM 4 rfl ?_
    refine Pl.weak (Pl.iald hM rfl rfl (fun hi => ?_))
    replace h := h hi
    refine Pl.brN (c := (σ.1 10 x1.toNatClampNeg) = x2) (a := 23) (b := 19) (ls' := [(0, .ref 22), (1, .int x1), (2, .int x2)]) (st' := []) (σ' := σ) hM 2 rfl (fun c => ?_) (fun c => ?_)
    · replace h := h.2 c
      refine Pl.seg (pc' := 24) (ls' := [(0, .ref 22), (1, .int x1), (2, .int x2)]) (st' := [.int (2 : Int32)]) (σ' := σ) hM 1 rfl ?_
      refine Pl.weak (Pl.ret hM rfl rfl h)
    · replace h := h.1 c
      refine Pl.seg (pc' := 24) (ls' := [(0, .ref 22), (1, .int x1), (2, .int x2)]) (st' := [.int (1 : Int32)]) (σ' := σ) hM 2 rfl ?_
      refine Pl.weak (Pl.ret hM rfl rfl h)
  · replace h := h.2 c
    refine Pl.seg (pc' := 5) (ls' := [(0, .ref 22), (1, .int x1), (2, .int x2)]) (st' := [.int (0 : Int32)]) (σ' := σ) hM 1 rfl ?_
    refine Pl.weak (Pl.ret hM rfl rfl h)
def LV_36 : List (Nat × List Nat) := [(0, [0, 1]), (1, [0, 1]), (4, [0, 1]), (5, [0, 1]), (6, [0, 1]), (7, [0, 1, 2]), (8, [0, 1, 2]), (11, [0, 1, 2]), (12, [0, 1, 2]), (15, [0, 1, 2]), (16, [0, 1, 2]), (17, [0, 1, 2]), (18, [0, 1, 2]), (21, [0, 1, 2]), (24, [0, 1, 2]), (25, [0, 1, 2]), (28, [0, 1, 2]), (31, [0, 1, 2]), (32, [0, 1, 2]), (35, [0, 1, 2]), (36, [0, 1, 2]), (37, [0, 1, 2]), (38, [0, 1, 2]), (39, [0, 1, 2]), (42, [0, 1, 2]), (45, [0, 1, 2]), (46, [0, 1, 2]), (47, [0, 1, 2]), (50, [0, 2]), (51, [0, 2]), (54, [0, 2]), (55, [2]), (58, [2]), (59, []), (60, []), (63, []), (64, [0, 1, 2]), (67, [0, 1, 2]), (70, []), (71, [])]
set_option maxRecDepth 100000 in
theorem lv_36 : chkLv M_36 LV_36 = true := by decide +kernel
set_option maxRecDepth 100000 in
theorem lva_36_7 : lvA LV_36 7 = [0, 1, 2] := by decide +kernel
set_option maxRecDepth 100000 in
theorem lva_36_64 : lvA LV_36 64 = [0, 1, 2] := by decide +kernel
set_option maxRecDepth 100000 in
theorem p_36_0 {n d : Nat} {Q : Option Value → Sg → Prop} (σ : Sg) (x1 : Int32) (h : Pl PRG n d 36 7 [(0, .ref 22), (1, .int x1), (2, .int ((σ.1 22 7) - (1 : Int32)))] [] σ Q) : Pl PRG (n + 1) d 36 0 [(0, .ref 22), (1, .int x1)] [] σ Q := by
  have hM : PRG[36]? = some M_36 := rfl
  refine Pl.sg1 (pc' := 7) (ls' := [(2, .int ((σ.1 22 7) - (1 : Int32))), (0, .ref 22), (1, .int x1)]) (st' := []) (σ' := σ) hM 4 rfl ?_
  exact Pl.live (l' := [(0, .ref 22), (1, .int x1), (2, .int ((σ.1 22 7) - (1 : Int32)))]) hM lv_36 ⟨show ndL _ from (by decide : List.Nodup ([2, 0, 1] : List Nat)), show ndL _ from (by decide : List.Nodup ([0, 1, 2] : List Nat)), by rw [lva_36_7]; exact List.forall_mem_cons.mpr ⟨rfl, List.forall_mem_cons.mpr ⟨rfl, List.forall_mem_cons.mpr ⟨rfl, fun _ h => absurd h List.not_mem_nil⟩⟩⟩⟩ h
set_option maxRecDepth 100000 in
theorem p_36_7 {n d : Nat} {Q : Option Value → Sg → Prop} (σ : Sg) (x1 x2 : Int32) (h : ((x2 < 0 → Q (some (.int (-1 : Int32))) σ) ∧ (¬ x2 < 0 → (inR x2 16 = true → (((σ.1 26 x2.toNatClampNeg) = (σ.1 22 6) → (inR x2 16 = true → (inR (σ.1 25 x2.toNatClampNeg) 16 = true → (inR x1 16 = true → (((σ.1 10 (σ.1 25 x2.toNatClampNeg).toNatClampNeg) = (σ.1 10 x1.toNatClampNeg) → (inR x2 16 = true → (∀ w2 σ1, RCx PRG n 9 [.ref 3, .int (σ.1 25 x2.toNatClampNeg)] σ (some (.int w2)) σ1 → Q (some (.int w2)) σ1))) ∧ (¬ (σ.1 10 (σ.1 25 x2.toNatClampNeg).toNatClampNeg) = (σ.1 10 x1.toNatClampNeg) → Pl PRG n d 36 64 [(0, .ref 22), (1, .int x1), (2, .int x2)] [] σ Q)))))) ∧ (¬ (σ.1 26 x2.toNatClampNeg) = (σ.1 22 6) → Pl PRG n d 36 64 [(0, .ref 22), (1, .int x1), (2, .int x2)] [] σ Q)))))) : Pl PRG (n + 1) d 36 7 [(0, .ref 22), (1, .int x1), (2, .int x2)] [] σ Q := by
  have hM : PRG[36]? = some M_36 := rfl
  refine Pl.br1 (c := x2 < 0) (a := 70) (b := 11) (ls' := [(0, .ref 22), (1, .int x1), (2, .int x2)]) (st' := []) (σ' := σ) hM 1 rfl (fun c => ?_) (fun c => ?_)
  · replace h := h.1 c
    refine Pl.seg (pc' := 71) (ls' := [(0, .ref 22), (1, .int x1), (2, .int x2)]) (st' := [.int (-1 : Int32)]) (σ' := σ) hM 1 rfl ?_
    refine Pl.weak (Pl.ret hM rfl rfl h)
  · replace h := h.2 c
    refine Pl.seg (pc' := 16) (ls' := [(0, .ref 22), (1, .int x1), (2, .int x2)]) (st' := [.int x2, .ref 26]) (σ' := σ) hM 3 rfl ?_
    refine Pl.weak (Pl.iald hM rfl rfl (fun hi => ?_))
    replace h := h hi
    refine Pl.brN (c := (σ.1 26 x2.toNatClampNeg) = (σ.1 22 6)) (a := 64) (b := 24) (ls' := [(0, .ref 22), (1, .int x1), (2, .int x2)]) (st' := []) (σ' := σ) hM 3 rfl (fun c => ?_) (fun c => ?_)
    · replace h := h.2 c
      exact Pl.live (l' := [(0, .ref 22), (1, .int x1), (2, .int x2)]) hM lv_36 ⟨show ndL _ from (by decide : List.Nodup ([0, 1, 2] : List Nat)), show ndL _ from (by decide : List.Nodup ([0, 1, 2] : List Nat)), by rw [lva_36_64]; exact List.forall_mem_cons.mpr ⟨rfl, List.forall_mem_cons.mpr ⟨rfl, List.forall_mem_cons.mpr ⟨rfl, fun _ h => absurd h List.not_mem_nil⟩⟩⟩⟩ h
    · replace h := h.1 c
      refine Pl.seg (pc' := 36) (ls' := [(0, .ref 22), (1, .int x1), (2, .int x2)]) (st' := [.int x2, .ref 25, .ref 10]) (σ' := σ) hM 6 rfl ?_
      refine Pl.weak (Pl.iald hM rfl rfl (fun hi => ?_))
      replace h := h hi
      refine Pl.weak (Pl.iald hM rfl rfl (fun hi => ?_))
      replace h := h hi
      refine Pl.seg (pc' := 46) (ls' := [(0, .ref 22), (1, .int x1), (2, .int x2)]) (st' := [.int x1, .ref 10, .int (σ.1 10 (σ.1 25 x2.toNatClampNeg).toNatClampNeg)]) (σ' := σ) hM 4 rfl ?_
      refine Pl.weak (Pl.iald hM rfl rfl (fun hi => ?_))
      replace h := h hi
      refine Pl.brN (c := (σ.1 10 (σ.1 25 x2.toNatClampNeg).toNatClampNeg) = (σ.1 10 x1.toNatClampNeg)) (a := 64) (b := 50) (ls' := [(0, .ref 22), (1, .int x1), (2, .int x2)]) (st' := []) (σ' := σ) hM 1 rfl (fun c => ?_) (fun c => ?_)
      · replace h := h.2 c
        exact Pl.live (l' := [(0, .ref 22), (1, .int x1), (2, .int x2)]) hM lv_36 ⟨show ndL _ from (by decide : List.Nodup ([0, 1, 2] : List Nat)), show ndL _ from (by decide : List.Nodup ([0, 1, 2] : List Nat)), by rw [lva_36_64]; exact List.forall_mem_cons.mpr ⟨rfl, List.forall_mem_cons.mpr ⟨rfl, List.forall_mem_cons.mpr ⟨rfl, fun _ h => absurd h List.not_mem_nil⟩⟩⟩⟩ h
      · replace h := h.1 c
        refine Pl.seg (pc' := 59) (ls' := [(0, .ref 22), (1, .int x1), (2, .int x2)]) (st' := [.int x2, .ref 25, .ref 3]) (σ' := σ) hM 5 rfl ?_
        refine Pl.weak (Pl.iald hM rfl rfl (fun hi => ?_))
        replace h := h hi
        refine Pl.weak (Pl.cI hM rfl rfl (by decide) (Mj := M_9) rfl rfl (fun w2 σ1 hw => ?_))
        replace h := h w2 σ1 hw
        refine Pl.weak (Pl.ret hM rfl rfl h)
set_option maxRecDepth 100000 in
theorem p_36_64 {n d : Nat} {Q : Option Value → Sg → Prop} (σ : Sg) (x1 x2 : Int32) (h : Pl PRG n d 36 7 [(0, .ref 22), (1, .int x1), (2, .int (x2 + (-1 : Int32)))] [] σ Q) : Pl PRG (n + 1) d 36 64 [(0, .ref 22), (1, .int x1), (2, .int x2)] [] σ Q := by
  have hM : PRG[36]? = some M_36 := rfl
  refine Pl.sg1 (pc' := 7) (ls' := [(2, .int (x2 + (-1 : Int32))), (0, .ref 22), (1, .int x1)]) (st' := []) (σ' := σ) hM 1 rfl ?_
  exact Pl.live (l' := [(0, .ref 22), (1, .int x1), (2, .int (x2 + (-1 : Int32)))]) hM lv_36 ⟨show ndL _ from (by decide : List.Nodup ([2, 0, 1] : List Nat)), show ndL _ from (by decide : List.Nodup ([0, 1, 2] : List Nat)), by rw [lva_36_7]; exact List.forall_mem_cons.mpr ⟨rfl, List.forall_mem_cons.mpr ⟨rfl, List.forall_mem_cons.mpr ⟨rfl, fun _ h => absurd h List.not_mem_nil⟩⟩⟩⟩ h
set_option maxRecDepth 100000 in
theorem p_39_0 {n d : Nat} {Q : Option Value → Sg → Prop} (σ : Sg) (x1 : Int32) (h : (∀ w2 σ1, RCx PRG n 34 [.ref 22] σ (some (.int w2)) σ1 → (∀ w4 σ3, RCx PRG n 36 [.ref 22, .int x1] σ1 (some (.int w4)) σ3 → (∀ σ5, RCx PRG n 10 [.ref 12, .int x1, .int w2, .int ((σ1.1 22 7) / (4 : Int32)), .int w4] σ3 none σ5 → (∀ w7 σ6, RCx PRG n 37 [.ref 22, .int x1, .int w2] σ5 (some (.int w7)) σ6 → (∀ w9 σ8, RCx PRG n 38 [.ref 12, .int w7, .int ((σ6.1 22 6) &&& (1 : Int32))] σ6 (some (.int w9)) σ8 → Q (some (.int w9)) σ8)))))) : Pl PRG (n + 1) d 39 0 [(0, .ref 22), (1, .int x1)] [] σ Q := by
  have hM : PRG[39]? = some M_39 := rfl
  refine Pl.sg1 (pc' := 1) (ls' := [(0, .ref 22), (1, .int x1)]) (st' := [.ref 22]) (σ' := σ) hM 0 rfl ?_
  refine Pl.weak (Pl.cI hM rfl rfl (by decide) (Mj := M_34) rfl rfl (fun w2 σ1 hw => ?_))
  replace h := h w2 σ1 hw
  refine Pl.seg (pc' := 19) (ls' := [(2, .int w2), (0, .ref 22), (1, .int x1)]) (st' := [.int x1, .ref 22, .int ((σ1.1 22 7) / (4 : Int32)), .int w2, .int x1, .ref 12]) (σ' := σ1) hM 11 rfl ?_
  refine Pl.weak (Pl.cI hM rfl rfl (by decide) (Mj := M_36) rfl rfl (fun w4 σ3 hw => ?_))
  replace h := h w4 σ3 hw
  refine Pl.weak (Pl.cV hM rfl rfl (by decide) (Mj := M_10) rfl rfl (fun σ5 hw => ?_))
  replace h := h σ5 hw
  refine Pl.seg (pc' := 32) (ls' := [(2, .int w2), (0, .ref 22), (1, .int x1)]) (st' := [.int w2, .int x1, .ref 22, .ref 12]) (σ' := σ5) hM 5 rfl ?_
  refine Pl.weak (Pl.cI hM rfl rfl (by decide) (Mj := M_37) rfl rfl (fun w7 σ6 hw => ?_))
  replace h := h w7 σ6 hw
  refine Pl.seg (pc' := 41) (ls' := [(2, .int w2), (0, .ref 22), (1, .int x1)]) (st' := [.int ((σ6.1 22 6) &&& (1 : Int32)), .int w7, .ref 12]) (σ' := σ6) hM 4 rfl ?_
  refine Pl.weak (Pl.cI hM rfl rfl (by decide) (Mj := M_38) rfl rfl (fun w9 σ8 hw => ?_))
  replace h := h w9 σ8 hw
  refine Pl.weak (Pl.ret hM rfl rfl h)
def LV_45 : List (Nat × List Nat) := [(0, [0, 1]), (1, [0, 1]), (2, [0, 1, 2]), (3, [0, 1, 2]), (4, [0, 1, 2]), (5, [0, 1, 2]), (6, [0, 1, 2, 3]), (7, [0, 1, 2, 3]), (8, [0, 1, 2, 3]), (11, [0, 1, 2, 3]), (14, [0, 1, 2, 3]), (15, [0, 1, 2, 3]), (16, [0, 1, 2, 3]), (17, [0, 1, 2, 3]), (18, [0, 1, 2, 3]), (21, [0, 1, 2, 3]), (22, [0, 1, 2, 3]), (25, [0, 1, 2, 3]), (28, [0, 1, 2, 3]), (29, [0, 1, 2, 3]), (32, [0, 1, 2, 3]), (33, [0, 1, 2, 3]), (34, [0, 1, 2, 3]), (35, [0, 1, 2, 3]), (37, [0, 1, 2, 3, 4]), (39, [0, 1, 2, 3, 4]), (40, [0, 1, 2, 3, 4]), (43, [0, 1, 2, 3, 4]), (46, [0, 1, 2, 3, 4]), (47, [0, 1, 2, 3, 4]), (50, [0, 1, 2, 3, 4]), (51, [0, 1, 2, 3, 4]), (52, [0, 1, 2, 3, 4]), (53, [0, 1, 2, 3, 4]), (56, [0, 1, 2, 3, 4]), (57, [0, 1, 2, 3, 4]), (60, [0, 1, 2, 3, 4]), (61, [0, 1, 2, 3, 4]), (63, [0, 1, 2, 3, 4, 5]), (65, [0, 1, 2, 3, 4]), (68, [0, 1, 2, 3]), (69, [0, 1, 2, 3]), (72, [0, 1, 2, 3]), (73, [0, 1, 2, 3]), (74, [0, 1, 2, 3]), (75, [0, 1, 2, 3]), (78, [0, 1, 2, 3]), (79, [0, 1, 2, 3]), (80, [0, 1, 2, 3]), (83, [0, 1, 3]), (86, [0, 1, 2, 3, 4]), (88, [0, 1, 2, 3]), (89, [0, 1, 2, 3]), (92, [0, 1, 2, 3]), (95, [0, 1, 2, 3]), (98, [0, 1, 3]), (99, [0, 1, 3]), (100, [0, 1, 2, 3]), (103, [0, 1, 2, 3]), (106, [2]), (107, [])]
set_option maxRecDepth 100000 in
theorem lv_45 : chkLv M_45 LV_45 = true := by decide +kernel
set_option maxRecDepth 100000 in
theorem lva_45_6 : lvA LV_45 6 = [0, 1, 2, 3] := by decide +kernel
set_option maxRecDepth 100000 in
theorem lva_45_98 : lvA LV_45 98 = [0, 1, 3] := by decide +kernel
set_option maxRecDepth 100000 in
theorem lva_45_100 : lvA LV_45 100 = [0, 1, 2, 3] := by decide +kernel
set_option maxRecDepth 100000 in
theorem lva_45_106 : lvA LV_45 106 = [2] := by decide +kernel
set_option maxRecDepth 100000 in
theorem p_45_0 {n d : Nat} {Q : Option Value → Sg → Prop} (σ : Sg) (x1 : Int32) (h : Pl PRG n d 45 6 [(0, .ref 22), (1, .int x1), (2, .int x1), (3, .int (x1 + (1 : Int32)))] [] σ Q) : Pl PRG (n + 1) d 45 0 [(0, .ref 22), (1, .int x1)] [] σ Q := by
  have hM : PRG[45]? = some M_45 := rfl
  refine Pl.sg1 (pc' := 6) (ls' := [(3, .int (x1 + (1 : Int32))), (2, .int x1), (0, .ref 22), (1, .int x1)]) (st' := []) (σ' := σ) hM 5 rfl ?_
  exact Pl.live (l' := [(0, .ref 22), (1, .int x1), (2, .int x1), (3, .int (x1 + (1 : Int32)))]) hM lv_45 ⟨show ndL _ from (by decide : List.Nodup ([3, 2, 0, 1] : List Nat)), show ndL _ from (by decide : List.Nodup ([0, 1, 2, 3] : List Nat)), by rw [lva_45_6]; exact List.forall_mem_cons.mpr ⟨rfl, List.forall_mem_cons.mpr ⟨rfl, List.forall_mem_cons.mpr ⟨rfl, List.forall_mem_cons.mpr ⟨rfl, fun _ h => absurd h List.not_mem_nil⟩⟩⟩⟩⟩ h
set_option maxRecDepth 100000 in
theorem p_45_6 {n d : Nat} {Q : Option Value → Sg → Prop} (σ : Sg) (x1 x2 x3 : Int32) (h : (((σ.1 22 7) ≤ x3 → Pl PRG n d 45 106 [(2, .int x2)] [] σ Q) ∧ (¬ (σ.1 22 7) ≤ x3 → (((x1 + (4 : Int32)) ≤ x3 → Pl PRG n d 45 106 [(2, .int x2)] [] σ Q) ∧ (¬ (x1 + (4 : Int32)) ≤ x3 → (inR x3 16 = true → (inR (σ.1 25 x3.toNatClampNeg) 16 = true → (inR x2 16 = true → (inR (σ.1 25 x2.toNatClampNeg) 16 = true → (((σ.1 10 (σ.1 25 x3.toNatClampNeg).toNatClampNeg) = (σ.1 10 (σ.1 25 x2.toNatClampNeg).toNatClampNeg) → (inR x3 16 = true → (inR x2 16 = true → (((σ.1 25 x3.toNatClampNeg) ≤ (σ.1 25 x2.toNatClampNeg) → Pl PRG n d 45 100 [(0, .ref 22), (1, .int x1), (2, .int x2), (3, .int x3)] [] σ Q) ∧ (¬ (σ.1 25 x3.toNatClampNeg) ≤ (σ.1 25 x2.toNatClampNeg) → Pl PRG n d 45 98 [(0, .ref 22), (1, .int x1), (3, .int x3)] [] σ Q))))) ∧ (¬ (σ.1 10 (σ.1 25 x3.toNatClampNeg).toNatClampNeg) = (σ.1 10 (σ.1 25 x2.toNatClampNeg).toNatClampNeg) → (((σ.1 10 (σ.1 25 x3.toNatClampNeg).toNatClampNeg) = (σ.1 3 2) → Pl PRG n d 45 98 [(0, .ref 22), (1, .int x1), (3, .int x3)] [] σ Q) ∧ (¬ (σ.1 10 (σ.1 25 x3.toNatClampNeg).toNatClampNeg) = (σ.1 3 2) → Pl PRG n d 45 100 [(0, .ref 22), (1, .int x1), (2, .int x2), (3, .int x3)] [] σ Q))))))))))))) : Pl PRG (n + 1) d 45 6 [(0, .ref 22), (1, .int x1), (2, .int x2), (3, .int x3)] [] σ Q := by
  have hM : PRG[45]? = some M_45 := rfl
  refine Pl.br1 (c := (σ.1 22 7) ≤ x3) (a := 106) (b := 14) (ls' := [(0, .ref 22), (1, .int x1), (2, .int x2), (3, .int x3)]) (st' := []) (σ' := σ) hM 3 rfl (fun c => ?_) (fun c => ?_)
  · replace h := h.1 c
    exact Pl.live (l' := [(2, .int x2)]) hM lv_45 ⟨show ndL _ from (by decide : List.Nodup ([0, 1, 2, 3] : List Nat)), show ndL _ from (by decide : List.Nodup ([2] : List Nat)), by rw [lva_45_106]; exact List.forall_mem_cons.mpr ⟨rfl, fun _ h => absurd h List.not_mem_nil⟩⟩ h
  · replace h := h.2 c
    refine Pl.br (c := (x1 + (4 : Int32)) ≤ x3) (a := 106) (b := 21) (ls' := [(0, .ref 22), (1, .int x1), (2, .int x2), (3, .int x3)]) (st' := []) (σ' := σ) hM 5 rfl (fun c => ?_) (fun c => ?_)
    · replace h := h.1 c
      exact Pl.live (l' := [(2, .int x2)]) hM lv_45 ⟨show ndL _ from (by decide : List.Nodup ([0, 1, 2, 3] : List Nat)), show ndL _ from (by decide : List.Nodup ([2] : List Nat)), by rw [lva_45_106]; exact List.forall_mem_cons.mpr ⟨rfl, fun _ h => absurd h List.not_mem_nil⟩⟩ h
    · replace h := h.2 c
      refine Pl.seg (pc' := 33) (ls' := [(0, .ref 22), (1, .int x1), (2, .int x2), (3, .int x3)]) (st' := [.int x3, .ref 25, .ref 10]) (σ' := σ) hM 6 rfl ?_
      refine Pl.weak (Pl.iald hM rfl rfl (fun hi => ?_))
      replace h := h hi
      refine Pl.weak (Pl.iald hM rfl rfl (fun hi => ?_))
      replace h := h hi
      refine Pl.seg (pc' := 51) (ls' := [(4, .int (σ.1 10 (σ.1 25 x3.toNatClampNeg).toNatClampNeg)), (0, .ref 22), (1, .int x1), (2, .int x2), (3, .int x3)]) (st' := [.int x2, .ref 25, .ref 10, .int (σ.1 10 (σ.1 25 x3.toNatClampNeg).toNatClampNeg)]) (σ' := σ) hM 8 rfl ?_
      refine Pl.weak (Pl.iald hM rfl rfl (fun hi => ?_))
      replace h := h hi
      refine Pl.weak (Pl.iald hM rfl rfl (fun hi => ?_))
      replace h := h hi
      refine Pl.brN (c := (σ.1 10 (σ.1 25 x3.toNatClampNeg).toNatClampNeg) = (σ.1 10 (σ.1 25 x2.toNatClampNeg).toNatClampNeg)) (a := 60) (b := 56) (ls' := [(4, .int (σ.1 10 (σ.1 25 x3.toNatClampNeg).toNatClampNeg)), (0, .ref 22), (1, .int x1), (2, .int x2), (3, .int x3)]) (st' := []) (σ' := σ) hM 1 rfl (fun c => ?_) (fun c => ?_)
      · replace h := h.2 c
        refine Pl.brN (c := (σ.1 10 (σ.1 25 x3.toNatClampNeg).toNatClampNeg) = (σ.1 3 2)) (a := 100) (b := 98) (ls' := [(5, .int (0 : Int32)), (4, .int (σ.1 10 (σ.1 25 x3.toNatClampNeg).toNatClampNeg)), (0, .ref 22), (1, .int x1), (2, .int x2), (3, .int x3)]) (st' := []) (σ' := σ) hM 9 rfl (fun c => ?_) (fun c => ?_)
        · replace h := h.2 c
          exact Pl.live (l' := [(0, .ref 22), (1, .int x1), (2, .int x2), (3, .int x3)]) hM lv_45 ⟨show ndL _ from (by decide : List.Nodup ([5, 4, 0, 1, 2, 3] : List Nat)), show ndL _ from (by decide : List.Nodup ([0, 1, 2, 3] : List Nat)), by rw [lva_45_100]; exact List.forall_mem_cons.mpr ⟨rfl, List.forall_mem_cons.mpr ⟨rfl, List.forall_mem_cons.mpr ⟨rfl, List.forall_mem_cons.mpr ⟨rfl, fun _ h => absurd h List.not_mem_nil⟩⟩⟩⟩⟩ h
        · replace h := h.1 c
          exact Pl.live (l' := [(0, .ref 22), (1, .int x1), (3, .int x3)]) hM lv_45 ⟨show ndL _ from (by decide : List.Nodup ([5, 4, 0, 1, 2, 3] : List Nat)), show ndL _ from (by decide : List.Nodup ([0, 1, 3] : List Nat)), by rw [lva_45_98]; exact List.forall_mem_cons.mpr ⟨rfl, List.forall_mem_cons.mpr ⟨rfl, List.forall_mem_cons.mpr ⟨rfl, fun _ h => absurd h List.not_mem_nil⟩⟩⟩⟩ h
      · replace h := h.1 c
        refine Pl.seg (pc' := 73) (ls' := [(5, .int (1 : Int32)), (4, .int (σ.1 10 (σ.1 25 x3.toNatClampNeg).toNatClampNeg)), (0, .ref 22), (1, .int x1), (2, .int x2), (3, .int x3)]) (st' := [.int x3, .ref 25]) (σ' := σ) hM 8 rfl ?_
        refine Pl.weak (Pl.iald hM rfl rfl (fun hi => ?_))
        replace h := h hi
        refine Pl.seg (pc' := 79) (ls' := [(5, .int (1 : Int32)), (4, .int (σ.1 10 (σ.1 25 x3.toNatClampNeg).toNatClampNeg)), (0, .ref 22), (1, .int x1), (2, .int x2), (3, .int x3)]) (st' := [.int x2, .ref 25, .int (σ.1 25 x3.toNatClampNeg)]) (σ' := σ) hM 3 rfl ?_
        refine Pl.weak (Pl.iald hM rfl rfl (fun hi => ?_))
        replace h := h hi
        refine Pl.br (c := (σ.1 25 x3.toNatClampNeg) ≤ (σ.1 25 x2.toNatClampNeg)) (a := 100) (b := 83) (ls' := [(5, .int (1 : Int32)), (4, .int (σ.1 10 (σ.1 25 x3.toNatClampNeg).toNatClampNeg)), (0, .ref 22), (1, .int x1), (2, .int x2), (3, .int x3)]) (st' := []) (σ' := σ) hM 1 rfl (fun c => ?_) (fun c => ?_)
        · replace h := h.1 c
          exact Pl.live (l' := [(0, .ref 22), (1, .int x1), (2, .int x2), (3, .int x3)]) hM lv_45 ⟨show ndL _ from (by decide : List.Nodup ([5, 4, 0, 1, 2, 3] : List Nat)), show ndL _ from (by decide : List.Nodup ([0, 1, 2, 3] : List Nat)), by rw [lva_45_100]; exact List.forall_mem_cons.mpr ⟨rfl, List.forall_mem_cons.mpr ⟨rfl, List.forall_mem_cons.mpr ⟨rfl, List.forall_mem_cons.mpr ⟨rfl, fun _ h => absurd h List.not_mem_nil⟩⟩⟩⟩⟩ h
        · replace h := h.2 c
          refine Pl.seg (pc' := 98) (ls' := [(5, .int (1 : Int32)), (4, .int (σ.1 10 (σ.1 25 x3.toNatClampNeg).toNatClampNeg)), (0, .ref 22), (1, .int x1), (2, .int x2), (3, .int x3)]) (st' := []) (σ' := σ) hM 1 rfl ?_
          exact Pl.live (l' := [(0, .ref 22), (1, .int x1), (3, .int x3)]) hM lv_45 ⟨show ndL _ from (by decide : List.Nodup ([5, 4, 0, 1, 2, 3] : List Nat)), show ndL _ from (by decide : List.Nodup ([0, 1, 3] : List Nat)), by rw [lva_45_98]; exact List.forall_mem_cons.mpr ⟨rfl, List.forall_mem_cons.mpr ⟨rfl, List.forall_mem_cons.mpr ⟨rfl, fun _ h => absurd h List.not_mem_nil⟩⟩⟩⟩ h
set_option maxRecDepth 100000 in
theorem p_45_106 {n d : Nat} {Q : Option Value → Sg → Prop} (σ : Sg) (x2 : Int32) (h : Q (some (.int x2)) σ) : Pl PRG (n + 1) d 45 106 [(2, .int x2)] [] σ Q := by
  have hM : PRG[45]? = some M_45 := rfl
  refine Pl.sg1 (pc' := 107) (ls' := [(2, .int x2)]) (st' := [.int x2]) (σ' := σ) hM 0 rfl ?_
  refine Pl.weak (Pl.ret hM rfl rfl h)
set_option maxRecDepth 100000 in
theorem p_45_100 {n d : Nat} {Q : Option Value → Sg → Prop} (σ : Sg) (x1 x2 x3 : Int32) (h : Pl PRG n d 45 6 [(0, .ref 22), (1, .int x1), (2, .int x2), (3, .int (x3 + (1 : Int32)))] [] σ Q) : Pl PRG (n + 1) d 45 100 [(0, .ref 22), (1, .int x1), (2, .int x2), (3, .int x3)] [] σ Q := by
  have hM : PRG[45]? = some M_45 := rfl
  refine Pl.sg1 (pc' := 6) (ls' := [(3, .int (x3 + (1 : Int32))), (0, .ref 22), (1, .int x1), (2, .int x2)]) (st' := []) (σ' := σ) hM 1 rfl ?_
  exact Pl.live (l' := [(0, .ref 22), (1, .int x1), (2, .int x2), (3, .int (x3 + (1 : Int32)))]) hM lv_45 ⟨show ndL _ from (by decide : List.Nodup ([3, 0, 1, 2] : List Nat)), show ndL _ from (by decide : List.Nodup ([0, 1, 2, 3] : List Nat)), by rw [lva_45_6]; exact List.forall_mem_cons.mpr ⟨rfl, List.forall_mem_cons.mpr ⟨rfl, List.forall_mem_cons.mpr ⟨rfl, List.forall_mem_cons.mpr ⟨rfl, fun _ h => absurd h List.not_mem_nil⟩⟩⟩⟩⟩ h
set_option maxRecDepth 100000 in
theorem p_45_98 {n d : Nat} {Q : Option Value → Sg → Prop} (σ : Sg) (x1 x3 : Int32) (h : Pl PRG n d 45 100 [(0, .ref 22), (1, .int x1), (2, .int x3), (3, .int x3)] [] σ Q) : Pl PRG (n + 1) d 45 98 [(0, .ref 22), (1, .int x1), (3, .int x3)] [] σ Q := by
  have hM : PRG[45]? = some M_45 := rfl
  refine Pl.sg1 (pc' := 100) (ls' := [(2, .int x3), (0, .ref 22), (1, .int x1), (3, .int x3)]) (st' := []) (σ' := σ) hM 1 rfl ?_
  exact Pl.live (l' := [(0, .ref 22), (1, .int x1), (2, .int x3), (3, .int x3)]) hM lv_45 ⟨show ndL _ from (by decide : List.Nodup ([2, 0, 1, 3] : List Nat)), show ndL _ from (by decide : List.Nodup ([0, 1, 2, 3] : List Nat)), by rw [lva_45_100]; exact List.forall_mem_cons.mpr ⟨rfl, List.forall_mem_cons.mpr ⟨rfl, List.forall_mem_cons.mpr ⟨rfl, List.forall_mem_cons.mpr ⟨rfl, fun _ h => absurd h List.not_mem_nil⟩⟩⟩⟩⟩ h
set_option maxRecDepth 100000 in
theorem p_62_0 {n d : Nat} {Q : Option Value → Sg → Prop} (σ : Sg) (h : (((σ.1 22 7) < (σ.1 3 10) → ((((σ.1 22 7) - (σ.1 22 7) / (4 : Int32) * (4 : Int32)) = 0 → (inR (((σ.1 22 7) / (4 : Int32)) - (1 : Int32)) 4 = true → Q (some (.int (σ.1 33 (((σ.1 22 7) / (4 : Int32)) - (1 : Int32)).toNatClampNeg))) σ)) ∧ (¬ ((σ.1 22 7) - (σ.1 22 7) / (4 : Int32) * (4 : Int32)) = 0 → Q (some (.int (((σ.1 22 6) + (1 : Int32)) &&& (3 : Int32)))) σ))) ∧ (¬ (σ.1 22 7) < (σ.1 3 10) → Q (some (.int (-2 : Int32))) σ))) : Pl PRG (n + 1) d 62 0 [(0, .ref 22)] [] σ Q := by
  have hM : PRG[62]? = some M_62 := rfl
  refine Pl.br1 (c := (σ.1 22 7) < (σ.1 3 10)) (a := 17) (b := 14) (ls' := [(0, .ref 22)]) (st' := []) (σ' := σ) hM 5 rfl (fun c => ?_) (fun c => ?_)
  · replace h := h.1 c
    refine Pl.brN (c := ((σ.1 22 7) - (σ.1 22 7) / (4 : Int32) * (4 : Int32)) = 0) (a := 42) (b := 26) (ls' := [(0, .ref 22)]) (st' := []) (σ' := σ) hM 5 rfl (fun c => ?_) (fun c => ?_)
    · replace h := h.2 c
      refine Pl.seg (pc' := 50) (ls' := [(0, .ref 22)]) (st' := [.int (((σ.1 22 6) + (1 : Int32)) &&& (3 : Int32))]) (σ' := σ) hM 6 rfl ?_
      refine Pl.weak (Pl.ret hM rfl rfl h)
    · replace h := h.1 c
      refine Pl.seg (pc' := 38) (ls' := [(0, .ref 22)]) (st' := [.int (((σ.1 22 7) / (4 : Int32)) - (1 : Int32)), .ref 33]) (σ' := σ) hM 8 rfl ?_
      refine Pl.weak (Pl.iald hM rfl rfl (fun hi => ?_))
      replace h := h hi
      refine Pl.seg (pc' := 50) (ls' := [(0, .ref 22)]) (st' := [.int (σ.1 33 (((σ.1 22 7) / (4 : Int32)) - (1 : Int32)).toNatClampNeg)]) (σ' := σ) hM 1 rfl ?_
      refine Pl.weak (Pl.ret hM rfl rfl h)
  · replace h := h.2 c
    refine Pl.seg (pc' := 16) (ls' := [(0, .ref 22)]) (st' := [.int (-2 : Int32)]) (σ' := σ) hM 1 rfl ?_
    refine Pl.weak (Pl.ret hM rfl rfl h)
def LV_69 : List (Nat × List Nat) := [(0, [0]), (1, [0]), (4, [0]), (7, [0]), (8, [0]), (9, [0]), (12, [0]), (13, [0]), (14, [0]), (17, [0]), (18, [0]), (19, [0]), (22, [0]), (23, [0]), (26, [0]), (27, [0]), (30, [0]), (31, [0]), (34, [0]), (35, [0]), (38, [0]), (39, [0]), (40, [0]), (41, [0]), (42, [0]), (45, [0]), (46, [0]), (49, [0]), (50, [0]), (51, [0]), (52, [0]), (53, [0]), (54, []), (55, []), (58, []), (59, []), (60, []), (63, [])]
set_option maxRecDepth 100000 in
theorem lv_69 : chkLv M_69 LV_69 = true := by decide +kernel
set_option maxRecDepth 100000 in
theorem lva_69_63 : lvA LV_69 63 = [] := by decide +kernel
set_option maxRecDepth 100000 in
theorem p_69_0 {n d : Nat} {Q : Option Value → Sg → Prop} (σ : Sg) (h : (((σ.1 22 7) ≤ 0 → Pl PRG n d 69 63 [] [] σ Q) ∧ (¬ (σ.1 22 7) ≤ 0 → (inR ((σ.1 22 7) - (1 : Int32)) 16 = true → (inR (σ.1 26 ((σ.1 22 7) - (1 : Int32)).toNatClampNeg) 4 = true → (inR ((σ.1 22 7) - (1 : Int32)) 16 = true → (inR (σ.1 26 ((σ.1 22 7) - (1 : Int32)).toNatClampNeg) 4 = true → Pl PRG n d 69 63 [] [] (s1 (s1 (s1 (s1 σ 22 7 ((σ.1 22 7) - (1 : Int32))) 22 6 (σ.1 26 ((σ.1 22 7) - (1 : Int32)).toNatClampNeg)) 24 (σ.1 26 ((σ.1 22 7) - (1 : Int32)).toNatClampNeg).toNatClampNeg ((σ.1 24 (σ.1 26 ((σ.1 22 7) - (1 : Int32)).toNatClampNeg).toNatClampNeg) ||| ((1 : Int32) <<< ((σ.1 25 ((σ.1 22 7) - (1 : Int32)).toNatClampNeg) &&& 31)))) 22 17 ((σ.1 22 17) + (1 : Int32))) Q))))))) : Pl PRG (n + 1) d 69 0 [(0, .ref 22)] [] σ Q := by
  have hM : PRG[69]? = some M_69 := rfl
  refine Pl.br1 (c := (σ.1 22 7) ≤ 0) (a := 63) (b := 7) (ls' := [(0, .ref 22)]) (st' := []) (σ' := σ) hM 2 rfl (fun c => ?_) (fun c => ?_)
  · replace h := h.1 c
    exact Pl.live (l' := []) hM lv_69 ⟨show ndL _ from (by decide : List.Nodup ([0] : List Nat)), show ndL _ from (by decide : List.Nodup ([] : List Nat)), by rw [lva_69_63]; exact fun _ h => absurd h List.not_mem_nil⟩ h
  · replace h := h.2 c
    refine Pl.seg (pc' := 26) (ls' := [(0, .ref 22)]) (st' := [.int ((σ.1 22 7) - (1 : Int32)), .ref 26, .ref 22]) (σ' := (s1 σ 22 7 ((σ.1 22 7) - (1 : Int32)))) hM 11 rfl ?_
    refine Pl.weak (Pl.iald hM rfl rfl (fun hi => ?_))
    replace h := h hi
    refine Pl.seg (pc' := 39) (ls' := [(0, .ref 22)]) (st' := [.int (σ.1 26 ((σ.1 22 7) - (1 : Int32)).toNatClampNeg), .ref 24, .int (σ.1 26 ((σ.1 22 7) - (1 : Int32)).toNatClampNeg), .ref 24]) (σ' := (s1 (s1 σ 22 7 ((σ.1 22 7) - (1 : Int32))) 22 6 (σ.1 26 ((σ.1 22 7) - (1 : Int32)).toNatClampNeg))) hM 6 rfl ?_
    refine Pl.weak (Pl.iald hM rfl rfl (fun hi => ?_))
    replace h := h hi
    refine Pl.seg (pc' := 49) (ls' := [(0, .ref 22)]) (st' := [.int ((σ.1 22 7) - (1 : Int32)), .ref 25, .int (1 : Int32), .int (σ.1 24 (σ.1 26 ((σ.1 22 7) - (1 : Int32)).toNatClampNeg).toNatClampNeg), .int (σ.1 26 ((σ.1 22 7) - (1 : Int32)).toNatClampNeg), .ref 24]) (σ' := (s1 (s1 σ 22 7 ((σ.1 22 7) - (1 : Int32))) 22 6 (σ.1 26 ((σ.1 22 7) - (1 : Int32)).toNatClampNeg))) hM 5 rfl ?_
    refine Pl.weak (Pl.iald hM rfl rfl (fun hi => ?_))
    replace h := h hi
    refine Pl.seg (pc' := 52) (ls' := [(0, .ref 22)]) (st' := [.int ((σ.1 24 (σ.1 26 ((σ.1 22 7) - (1 : Int32)).toNatClampNeg).toNatClampNeg) ||| ((1 : Int32) <<< ((σ.1 25 ((σ.1 22 7) - (1 : Int32)).toNatClampNeg) &&& 31))), .int (σ.1 26 ((σ.1 22 7) - (1 : Int32)).toNatClampNeg), .ref 24]) (σ' := (s1 (s1 σ 22 7 ((σ.1 22 7) - (1 : Int32))) 22 6 (σ.1 26 ((σ.1 22 7) - (1 : Int32)).toNatClampNeg))) hM 2 rfl ?_
    refine Pl.weak (Pl.iast hM rfl rfl (fun hi => ?_))
    replace h := h hi
    refine Pl.seg (pc' := 63) (ls' := [(0, .ref 22)]) (st' := []) (σ' := (s1 (s1 (s1 (s1 σ 22 7 ((σ.1 22 7) - (1 : Int32))) 22 6 (σ.1 26 ((σ.1 22 7) - (1 : Int32)).toNatClampNeg)) 24 (σ.1 26 ((σ.1 22 7) - (1 : Int32)).toNatClampNeg).toNatClampNeg ((σ.1 24 (σ.1 26 ((σ.1 22 7) - (1 : Int32)).toNatClampNeg).toNatClampNeg) ||| ((1 : Int32) <<< ((σ.1 25 ((σ.1 22 7) - (1 : Int32)).toNatClampNeg) &&& 31)))) 22 17 ((σ.1 22 17) + (1 : Int32)))) hM 6 rfl ?_
    exact Pl.live (l' := []) hM lv_69 ⟨show ndL _ from (by decide : List.Nodup ([0] : List Nat)), show ndL _ from (by decide : List.Nodup ([] : List Nat)), by rw [lva_69_63]; exact fun _ h => absurd h List.not_mem_nil⟩ h
set_option maxRecDepth 100000 in
theorem p_69_63 {n d : Nat} {Q : Option Value → Sg → Prop} (σ : Sg) (h : Q none σ) : Pl PRG (n + 1) d 69 63 [] [] σ Q := by
  have hM : PRG[69]? = some M_69 := rfl
  refine Pl.ret hM rfl rfl h
set_option maxRecDepth 100000 in
theorem p_35_0 {n d : Nat} {Q : Option Value → Sg → Prop} (σ : Sg) (h : ((0 ≤ (σ.1 22 6) → (∀ w2 σ1, RCx PRG n 34 [.ref 22] σ (some (.int w2)) σ1 → ((0 ≤ w2 → (inR (σ1.1 22 6) 4 = true → (inR w2 4 = true → ((((σ1.1 24 (σ1.1 22 6).toNatClampNeg) &&& (σ1.1 9 w2.toNatClampNeg)) = 0 → (inR (σ1.1 22 6) 4 = true → Q (some (.int (σ1.1 24 (σ1.1 22 6).toNatClampNeg))) σ1)) ∧ (¬ ((σ1.1 24 (σ1.1 22 6).toNatClampNeg) &&& (σ1.1 9 w2.toNatClampNeg)) = 0 → Q (some (.int ((σ1.1 24 (σ1.1 22 6).toNatClampNeg) &&& (σ1.1 9 w2.toNatClampNeg)))) σ1))))) ∧ (¬ 0 ≤ w2 → (inR (σ1.1 22 6) 4 = true → Q (some (.int (σ1.1 24 (σ1.1 22 6).toNatClampNeg))) σ1))))) ∧ (¬ 0 ≤ (σ.1 22 6) → Q (some (.int (0 : Int32))) σ))) : Pl PRG (n + 1) d 35 0 [(0, .ref 22)] [] σ Q := by
  have hM : PRG[35]? = some M_35 := rfl
  refine Pl.br1 (c := 0 ≤ (σ.1 22 6)) (a := 9) (b := 7) (ls' := [(0, .ref 22)]) (st' := []) (σ' := σ) hM 2 rfl (fun c => ?_) (fun c => ?_)
  · replace h := h.1 c
    refine Pl.seg (pc' := 10) (ls' := [(0, .ref 22)]) (st' := [.ref 22]) (σ' := σ) hM 1 rfl ?_
    refine Pl.weak (Pl.cI hM rfl rfl (by decide) (Mj := M_34) rfl rfl (fun w2 σ1 hw => ?_))
    replace h := h w2 σ1 hw
    refine Pl.br (c := 0 ≤ w2) (a := 22) (b := 18) (ls' := [(1, .int w2), (0, .ref 22)]) (st' := []) (σ' := σ1) hM 3 rfl (fun c => ?_) (fun c => ?_)
    · replace h := h.1 c
      refine Pl.seg (pc' := 30) (ls' := [(1, .int w2), (0, .ref 22)]) (st' := [.int (σ1.1 22 6), .ref 24]) (σ' := σ1) hM 4 rfl ?_
      refine Pl.weak (Pl.iald hM rfl rfl (fun hi => ?_))
      replace h := h hi
      refine Pl.seg (pc' := 39) (ls' := [(1, .int w2), (0, .ref 22)]) (st' := [.int w2, .ref 9, .int (σ1.1 24 (σ1.1 22 6).toNatClampNeg)]) (σ' := σ1) hM 4 rfl ?_
      refine Pl.weak (Pl.iald hM rfl rfl (fun hi => ?_))
      replace h := h hi
      refine Pl.br (c := ((σ1.1 24 (σ1.1 22 6).toNatClampNeg) &&& (σ1.1 9 w2.toNatClampNeg)) = 0) (a := 50) (b := 46) (ls' := [(2, .int ((σ1.1 24 (σ1.1 22 6).toNatClampNeg) &&& (σ1.1 9 w2.toNatClampNeg))), (1, .int w2), (0, .ref 22)]) (st' := []) (σ' := σ1) hM 4 rfl (fun c => ?_) (fun c => ?_)
      · replace h := h.1 c
        refine Pl.seg (pc' := 58) (ls' := [(2, .int ((σ1.1 24 (σ1.1 22 6).toNatClampNeg) &&& (σ1.1 9 w2.toNatClampNeg))), (1, .int w2), (0, .ref 22)]) (st' := [.int (σ1.1 22 6), .ref 24]) (σ' := σ1) hM 4 rfl ?_
        refine Pl.weak (Pl.iald hM rfl rfl (fun hi => ?_))
        replace h := h hi
        refine Pl.weak (Pl.ret hM rfl rfl h)
      · replace h := h.2 c
        refine Pl.seg (pc' := 59) (ls' := [(2, .int ((σ1.1 24 (σ1.1 22 6).toNatClampNeg) &&& (σ1.1 9 w2.toNatClampNeg))), (1, .int w2), (0, .ref 22)]) (st' := [.int ((σ1.1 24 (σ1.1 22 6).toNatClampNeg) &&& (σ1.1 9 w2.toNatClampNeg))]) (σ' := σ1) hM 2 rfl ?_
        refine Pl.weak (Pl.ret hM rfl rfl h)
    · replace h := h.2 c
      refine Pl.seg (pc' := 58) (ls' := [(2, .int (0 : Int32)), (1, .int w2), (0, .ref 22)]) (st' := [.int (σ1.1 22 6), .ref 24]) (σ' := σ1) hM 9 rfl ?_
      refine Pl.weak (Pl.iald hM rfl rfl (fun hi => ?_))
      replace h := h hi
      refine Pl.weak (Pl.ret hM rfl rfl h)
  · replace h := h.2 c
    refine Pl.seg (pc' := 8) (ls' := [(0, .ref 22)]) (st' := [.int (0 : Int32)]) (σ' := σ) hM 1 rfl ?_
    refine Pl.weak (Pl.ret hM rfl rfl h)
def LV_64 : List (Nat × List Nat) := [(0, [0, 1]), (1, [0, 1]), (2, [0, 1, 2]), (3, [0, 1, 2]), (4, [0, 1, 2, 3]), (5, [0, 1, 2, 3]), (6, [0, 1, 2, 3]), (9, [0, 1, 2, 3]), (10, [0, 1, 2, 3]), (11, [0, 1, 2, 3]), (14, [0, 1, 2, 3]), (15, [0, 1, 3]), (16, [0, 1, 3]), (19, [0, 1, 3]), (20, [0, 1, 3]), (21, [0, 1, 3]), (22, [0, 1, 3]), (23, [0, 1, 3]), (24, [0, 1, 3]), (27, [0, 1, 3]), (28, [0, 1, 3]), (31, [0, 1, 3]), (32, [0, 1, 3]), (33, [0, 1, 3]), (34, [0, 1, 2, 3]), (37, [0, 1, 2, 3]), (40, [2]), (41, [])]
set_option maxRecDepth 100000 in
theorem lv_64 : chkLv M_64 LV_64 = true := by decide +kernel
set_option maxRecDepth 100000 in
theorem lva_64_4 : lvA LV_64 4 = [0, 1, 2, 3] := by decide +kernel
set_option maxRecDepth 100000 in
theorem p_64_0 {n d : Nat} {Q : Option Value → Sg → Prop} (σ : Sg) (x1 : Int32) (h : Pl PRG n d 64 4 [(0, .ref 22), (1, .int x1), (2, .int (0 : Int32)), (3, .int (0 : Int32))] [] σ Q) : Pl PRG (n + 1) d 64 0 [(0, .ref 22), (1, .int x1)] [] σ Q := by
  have hM : PRG[64]? = some M_64 := rfl
  refine Pl.sg1 (pc' := 4) (ls' := [(3, .int (0 : Int32)), (2, .int (0 : Int32)), (0, .ref 22), (1, .int x1)]) (st' := []) (σ' := σ) hM 3 rfl ?_
  exact Pl.live (l' := [(0, .ref 22), (1, .int x1), (2, .int (0 : Int32)), (3, .int (0 : Int32))]) hM lv_64 ⟨show ndL _ from (by decide : List.Nodup ([3, 2, 0, 1] : List Nat)), show ndL _ from (by decide : List.Nodup ([0, 1, 2, 3] : List Nat)), by rw [lva_64_4]; exact List.forall_mem_cons.mpr ⟨rfl, List.forall_mem_cons.mpr ⟨rfl, List.forall_mem_cons.mpr ⟨rfl, List.forall_mem_cons.mpr ⟨rfl, fun _ h => absurd h List.not_mem_nil⟩⟩⟩⟩⟩ h
set_option maxRecDepth 100000 in
theorem p_64_4 {n d : Nat} {Q : Option Value → Sg → Prop} (σ : Sg) (x1 x2 x3 : Int32) (h : ((((σ.1 22 7) / (4 : Int32)) ≤ x3 → Q (some (.int x2)) σ) ∧ (¬ ((σ.1 22 7) / (4 : Int32)) ≤ x3 → (inR x3 4 = true → ((((σ.1 33 x3.toNatClampNeg) &&& (1 : Int32)) = x1 → Pl PRG n d 64 4 [(0, .ref 22), (1, .int x1), (2, .int (x2 + (1 : Int32))), (3, .int (x3 + (1 : Int32)))] [] σ Q) ∧ (¬ ((σ.1 33 x3.toNatClampNeg) &&& (1 : Int32)) = x1 → Pl PRG n d 64 4 [(0, .ref 22), (1, .int x1), (2, .int (x2 + (0 : Int32))), (3, .int (x3 + (1 : Int32)))] [] σ Q)))))) : Pl PRG (n + 1) d 64 4 [(0, .ref 22), (1, .int x1), (2, .int x2), (3, .int x3)] [] σ Q := by
  have hM : PRG[64]? = some M_64 := rfl
  refine Pl.br1 (c := ((σ.1 22 7) / (4 : Int32)) ≤ x3) (a := 40) (b := 14) (ls' := [(0, .ref 22), (1, .int x1), (2, .int x2), (3, .int x3)]) (st' := []) (σ' := σ) hM 5 rfl (fun c => ?_) (fun c => ?_)
  · replace h := h.1 c
    refine Pl.seg (pc' := 41) (ls' := [(0, .ref 22), (1, .int x1), (2, .int x2), (3, .int x3)]) (st' := [.int x2]) (σ' := σ) hM 1 rfl ?_
    refine Pl.weak (Pl.ret hM rfl rfl h)
  · replace h := h.2 c
    refine Pl.seg (pc' := 20) (ls' := [(0, .ref 22), (1, .int x1), (2, .int x2), (3, .int x3)]) (st' := [.int x3, .ref 33, .int x2]) (σ' := σ) hM 4 rfl ?_
    refine Pl.weak (Pl.iald hM rfl rfl (fun hi => ?_))
    replace h := h hi
    refine Pl.brN (c := ((σ.1 33 x3.toNatClampNeg) &&& (1 : Int32)) = x1) (a := 31) (b := 27) (ls' := [(0, .ref 22), (1, .int x1), (2, .int x2), (3, .int x3)]) (st' := [.int x2]) (σ' := σ) hM 4 rfl (fun c => ?_) (fun c => ?_)
    · replace h := h.2 c
      refine Pl.seg (pc' := 4) (ls' := [(3, .int (x3 + (1 : Int32))), (2, .int (x2 + (0 : Int32))), (0, .ref 22), (1, .int x1)]) (st' := []) (σ' := σ) hM 5 rfl ?_
      exact Pl.live (l' := [(0, .ref 22), (1, .int x1), (2, .int (x2 + (0 : Int32))), (3, .int (x3 + (1 : Int32)))]) hM lv_64 ⟨show ndL _ from (by decide : List.Nodup ([3, 2, 0, 1] : List Nat)), show ndL _ from (by decide : List.Nodup ([0, 1, 2, 3] : List Nat)), by rw [lva_64_4]; exact List.forall_mem_cons.mpr ⟨rfl, List.forall_mem_cons.mpr ⟨rfl, List.forall_mem_cons.mpr ⟨rfl, List.forall_mem_cons.mpr ⟨rfl, fun _ h => absurd h List.not_mem_nil⟩⟩⟩⟩⟩ h
    · replace h := h.1 c
      refine Pl.seg (pc' := 4) (ls' := [(3, .int (x3 + (1 : Int32))), (2, .int (x2 + (1 : Int32))), (0, .ref 22), (1, .int x1)]) (st' := []) (σ' := σ) hM 6 rfl ?_
      exact Pl.live (l' := [(0, .ref 22), (1, .int x1), (2, .int (x2 + (1 : Int32))), (3, .int (x3 + (1 : Int32)))]) hM lv_64 ⟨show ndL _ from (by decide : List.Nodup ([3, 2, 0, 1] : List Nat)), show ndL _ from (by decide : List.Nodup ([0, 1, 2, 3] : List Nat)), by rw [lva_64_4]; exact List.forall_mem_cons.mpr ⟨rfl, List.forall_mem_cons.mpr ⟨rfl, List.forall_mem_cons.mpr ⟨rfl, List.forall_mem_cons.mpr ⟨rfl, fun _ h => absurd h List.not_mem_nil⟩⟩⟩⟩⟩ h
def LV_70 : List (Nat × List Nat) := [(0, [0, 1]), (1, [0, 1]), (4, [0, 1]), (5, [0, 1]), (6, [0, 1]), (9, []), (11, []), (12, [0, 1]), (13, [0, 1]), (14, [0, 1]), (15, [0, 1]), (16, [0, 1, 2]), (17, [0, 1, 2]), (18, [0, 1, 2]), (21, [0, 1, 2]), (24, [0, 1, 2]), (25, [0, 1, 2]), (28, [0, 1, 2]), (29, [0, 1, 2]), (30, [0, 1, 2]), (31, [0, 1, 2]), (34, [0, 1, 2]), (35, [0, 1, 2]), (36, [0, 1, 2]), (39, [0, 1, 2]), (40, [0, 1, 2]), (43, [0, 1, 2]), (46, [0, 1, 2]), (47, [0, 1, 2]), (50, [0, 1, 2]), (51, [0, 1, 2]), (52, [0, 1, 2]), (53, [0, 1, 2]), (54, [0, 1, 2]), (57, [0, 1, 2]), (58, [0, 1, 2]), (59, [0, 1, 2]), (62, [2]), (63, []), (64, [0, 1, 2]), (67, [0, 1, 2]), (70, []), (72, [])]
set_option maxRecDepth 100000 in
theorem lv_70 : chkLv M_70 LV_70 = true := by decide +kernel
set_option maxRecDepth 100000 in
theorem lva_70_16 : lvA LV_70 16 = [0, 1, 2] := by decide +kernel
set_option maxRecDepth 100000 in
theorem lva_70_64 : lvA LV_70 64 = [0, 1, 2] := by decide +kernel
set_option maxRecDepth 100000 in
theorem p_70_0 {n d : Nat} {Q : Option Value → Sg → Prop} (σ : Sg) (x1 : Int32) (h : (inR x1 16 = true → (((σ.1 30 x1.toNatClampNeg) = 0 → Q (some (.int (-2 : Int32))) σ) ∧ (¬ (σ.1 30 x1.toNatClampNeg) = 0 → Pl PRG n d 70 16 [(0, .ref 22), (1, .int x1), (2, .int (x1 + (1 : Int32)))] [] σ Q)))) : Pl PRG (n + 1) d 70 0 [(0, .ref 22), (1, .int x1)] [] σ Q := by
  have hM : PRG[70]? = some M_70 := rfl
  refine Pl.sg1 (pc' := 5) (ls' := [(0, .ref 22), (1, .int x1)]) (st' := [.int x1, .ref 30]) (σ' := σ) hM 2 rfl ?_
  refine Pl.weak (Pl.iald hM rfl rfl (fun hi => ?_))
  replace h := h hi
  refine Pl.brN (c := (σ.1 30 x1.toNatClampNeg) = 0) (a := 12) (b := 9) (ls' := [(0, .ref 22), (1, .int x1)]) (st' := []) (σ' := σ) hM 1 rfl (fun c => ?_) (fun c => ?_)
  · replace h := h.2 c
    refine Pl.seg (pc' := 16) (ls' := [(2, .int (x1 + (1 : Int32))), (0, .ref 22), (1, .int x1)]) (st' := []) (σ' := σ) hM 4 rfl ?_
    exact Pl.live (l' := [(0, .ref 22), (1, .int x1), (2, .int (x1 + (1 : Int32)))]) hM lv_70 ⟨show ndL _ from (by decide : List.Nodup ([2, 0, 1] : List Nat)), show ndL _ from (by decide : List.Nodup ([0, 1, 2] : List Nat)), by rw [lva_70_16]; exact List.forall_mem_cons.mpr ⟨rfl, List.forall_mem_cons.mpr ⟨rfl, List.forall_mem_cons.mpr ⟨rfl, fun _ h => absurd h List.not_mem_nil⟩⟩⟩⟩ h
  · replace h := h.1 c
    refine Pl.seg (pc' := 11) (ls' := [(0, .ref 22), (1, .int x1)]) (st' := [.int (-2 : Int32)]) (σ' := σ) hM 1 rfl ?_
    refine Pl.weak (Pl.ret hM rfl rfl h)
set_option maxRecDepth 100000 in
theorem p_70_16 {n d : Nat} {Q : Option Value → Sg → Prop} (σ : Sg) (x1 x2 : Int32) (h : (((σ.1 22 7) ≤ x2 → Q (some (.int (-2 : Int32))) σ) ∧ (¬ (σ.1 22 7) ≤ x2 → (inR x2 16 = true → (inR x1 16 = true → (((σ.1 26 x2.toNatClampNeg) = (σ.1 26 x1.toNatClampNeg) → (inR x2 16 = true → (inR (σ.1 25 x2.toNatClampNeg) 16 = true → (inR x1 16 = true → (((σ.1 10 (σ.1 25 x2.toNatClampNeg).toNatClampNeg) = (σ.1 28 x1.toNatClampNeg) → Q (some (.int x2)) σ) ∧ (¬ (σ.1 10 (σ.1 25 x2.toNatClampNeg).toNatClampNeg) = (σ.1 28 x1.toNatClampNeg) → Pl PRG n d 70 64 [(0, .ref 22), (1, .int x1), (2, .int x2)] [] σ Q)))))) ∧ (¬ (σ.1 26 x2.toNatClampNeg) = (σ.1 26 x1.toNatClampNeg) → Pl PRG n d 70 64 [(0, .ref 22), (1, .int x1), (2, .int x2)] [] σ Q))))))) : Pl PRG (n + 1) d 70 16 [(0, .ref 22), (1, .int x1), (2, .int x2)] [] σ Q := by
  have hM : PRG[70]? = some M_70 := rfl
  refine Pl.br1 (c := (σ.1 22 7) ≤ x2) (a := 70) (b := 24) (ls' := [(0, .ref 22), (1, .int x1), (2, .int x2)]) (st' := []) (σ' := σ) hM 3 rfl (fun c => ?_) (fun c => ?_)
  · replace h := h.1 c
    refine Pl.seg (pc' := 72) (ls' := [(0, .ref 22), (1, .int x1), (2, .int x2)]) (st' := [.int (-2 : Int32)]) (σ' := σ) hM 1 rfl ?_
    refine Pl.weak (Pl.ret hM rfl rfl h)
  · replace h := h.2 c
    refine Pl.seg (pc' := 29) (ls' := [(0, .ref 22), (1, .int x1), (2, .int x2)]) (st' := [.int x2, .ref 26]) (σ' := σ) hM 3 rfl ?_
    refine Pl.weak (Pl.iald hM rfl rfl (fun hi => ?_))
    replace h := h hi
    refine Pl.seg (pc' := 35) (ls' := [(0, .ref 22), (1, .int x1), (2, .int x2)]) (st' := [.int x1, .ref 26, .int (σ.1 26 x2.toNatClampNeg)]) (σ' := σ) hM 3 rfl ?_
    refine Pl.weak (Pl.iald hM rfl rfl (fun hi => ?_))
    replace h := h hi
    refine Pl.brN (c := (σ.1 26 x2.toNatClampNeg) = (σ.1 26 x1.toNatClampNeg)) (a := 64) (b := 39) (ls' := [(0, .ref 22), (1, .int x1), (2, .int x2)]) (st' := []) (σ' := σ) hM 1 rfl (fun c => ?_) (fun c => ?_)
    · replace h := h.2 c
      exact Pl.live (l' := [(0, .ref 22), (1, .int x1), (2, .int x2)]) hM lv_70 ⟨show ndL _ from (by decide : List.Nodup ([0, 1, 2] : List Nat)), show ndL _ from (by decide : List.Nodup ([0, 1, 2] : List Nat)), by rw [lva_70_64]; exact List.forall_mem_cons.mpr ⟨rfl, List.forall_mem_cons.mpr ⟨rfl, List.forall_mem_cons.mpr ⟨rfl, fun _ h => absurd h List.not_mem_nil⟩⟩⟩⟩ h
    · replace h := h.1 c
      refine Pl.seg (pc' := 51) (ls' := [(0, .ref 22), (1, .int x1), (2, .int x2)]) (st' := [.int x2, .ref 25, .ref 10]) (σ' := σ) hM 6 rfl ?_
      refine Pl.weak (Pl.iald hM rfl rfl (fun hi => ?_))
      replace h := h hi
      refine Pl.weak (Pl.iald hM rfl rfl (fun hi => ?_))
      replace h := h hi
      refine Pl.seg (pc' := 58) (ls' := [(0, .ref 22), (1, .int x1), (2, .int x2)]) (st' := [.int x1, .ref 28, .int (σ.1 10 (σ.1 25 x2.toNatClampNeg).toNatClampNeg)]) (σ' := σ) hM 3 rfl ?_
      refine Pl.weak (Pl.iald hM rfl rfl (fun hi => ?_))
      replace h := h hi
      refine Pl.brN (c := (σ.1 10 (σ.1 25 x2.toNatClampNeg).toNatClampNeg) = (σ.1 28 x1.toNatClampNeg)) (a := 64) (b := 62) (ls' := [(0, .ref 22), (1, .int x1), (2, .int x2)]) (st' := []) (σ' := σ) hM 1 rfl (fun c => ?_) (fun c => ?_)
      · replace h := h.2 c
        exact Pl.live (l' := [(0, .ref 22), (1, .int x1), (2, .int x2)]) hM lv_70 ⟨show ndL _ from (by decide : List.Nodup ([0, 1, 2] : List Nat)), show ndL _ from (by decide : List.Nodup ([0, 1, 2] : List Nat)), by rw [lva_70_64]; exact List.forall_mem_cons.mpr ⟨rfl, List.forall_mem_cons.mpr ⟨rfl, List.forall_mem_cons.mpr ⟨rfl, fun _ h => absurd h List.not_mem_nil⟩⟩⟩⟩ h
      · replace h := h.1 c
        refine Pl.seg (pc' := 63) (ls' := [(0, .ref 22), (1, .int x1), (2, .int x2)]) (st' := [.int x2]) (σ' := σ) hM 1 rfl ?_
        refine Pl.weak (Pl.ret hM rfl rfl h)
set_option maxRecDepth 100000 in
theorem p_70_64 {n d : Nat} {Q : Option Value → Sg → Prop} (σ : Sg) (x1 x2 : Int32) (h : Pl PRG n d 70 16 [(0, .ref 22), (1, .int x1), (2, .int (x2 + (1 : Int32)))] [] σ Q) : Pl PRG (n + 1) d 70 64 [(0, .ref 22), (1, .int x1), (2, .int x2)] [] σ Q := by
  have hM : PRG[70]? = some M_70 := rfl
  refine Pl.sg1 (pc' := 16) (ls' := [(2, .int (x2 + (1 : Int32))), (0, .ref 22), (1, .int x1)]) (st' := []) (σ' := σ) hM 1 rfl ?_
  exact Pl.live (l' := [(0, .ref 22), (1, .int x1), (2, .int (x2 + (1 : Int32)))]) hM lv_70 ⟨show ndL _ from (by decide : List.Nodup ([2, 0, 1] : List Nat)), show ndL _ from (by decide : List.Nodup ([0, 1, 2] : List Nat)), by rw [lva_70_16]; exact List.forall_mem_cons.mpr ⟨rfl, List.forall_mem_cons.mpr ⟨rfl, List.forall_mem_cons.mpr ⟨rfl, fun _ h => absurd h List.not_mem_nil⟩⟩⟩⟩ h
def LV_68 : List (Nat × List Nat) := [(0, [0]), (1, [0]), (4, [0]), (7, [0]), (8, [0]), (11, [0]), (12, []), (15, []), (18, []), (21, []), (22, []), (25, []), (26, [])]
set_option maxRecDepth 100000 in
theorem lv_68 : chkLv M_68 LV_68 = true := by decide +kernel
set_option maxRecDepth 100000 in
theorem lva_68_25 : lvA LV_68 25 = [] := by decide +kernel
set_option maxRecDepth 100000 in
theorem p_68_0 {n d : Nat} {Q : Option Value → Sg → Prop} (σ : Sg) (h : (((σ.1 22 2) = 0 → Pl PRG n d 68 25 [] [] σ Q) ∧ (¬ (σ.1 22 2) = 0 → (((σ.1 22 7) = (σ.1 3 10) → Q (some (.int (1 : Int32))) σ) ∧ (¬ (σ.1 22 7) = (σ.1 3 10) → Pl PRG n d 68 25 [] [] σ Q))))) : Pl PRG (n + 1) d 68 0 [(0, .ref 22)] [] σ Q := by
  have hM : PRG[68]? = some M_68 := rfl
  refine Pl.br1 (c := (σ.1 22 2) = 0) (a := 25) (b := 7) (ls' := [(0, .ref 22)]) (st' := []) (σ' := σ) hM 2 rfl (fun c => ?_) (fun c => ?_)
  · replace h := h.1 c
    exact Pl.live (l' := []) hM lv_68 ⟨show ndL _ from (by decide : List.Nodup ([0] : List Nat)), show ndL _ from (by decide : List.Nodup ([] : List Nat)), by rw [lva_68_25]; exact fun _ h => absurd h List.not_mem_nil⟩ h
  · replace h := h.2 c
    refine Pl.brN (c := (σ.1 22 7) = (σ.1 3 10)) (a := 25) (b := 21) (ls' := [(0, .ref 22)]) (st' := []) (σ' := σ) hM 6 rfl (fun c => ?_) (fun c => ?_)
    · replace h := h.2 c
      exact Pl.live (l' := []) hM lv_68 ⟨show ndL _ from (by decide : List.Nodup ([0] : List Nat)), show ndL _ from (by decide : List.Nodup ([] : List Nat)), by rw [lva_68_25]; exact fun _ h => absurd h List.not_mem_nil⟩ h
    · replace h := h.1 c
      refine Pl.seg (pc' := 26) (ls' := [(0, .ref 22)]) (st' := [.int (1 : Int32)]) (σ' := σ) hM 2 rfl ?_
      refine Pl.weak (Pl.ret hM rfl rfl h)
set_option maxRecDepth 100000 in
theorem p_68_25 {n d : Nat} {Q : Option Value → Sg → Prop} (σ : Sg) (h : Q (some (.int (0 : Int32))) σ) : Pl PRG (n + 1) d 68 25 [] [] σ Q := by
  have hM : PRG[68]? = some M_68 := rfl
  refine Pl.sg1 (pc' := 26) (ls' := []) (st' := [.int (0 : Int32)]) (σ' := σ) hM 0 rfl ?_
  refine Pl.weak (Pl.ret hM rfl rfl h)
def LV_30 : List (Nat × List Nat) := [(0, [0, 1]), (1, [0, 1]), (2, [0, 1, 2]), (3, [0, 1, 2]), (4, [0, 1, 2, 3]), (5, [0, 1, 2, 3]), (6, [0, 1, 2, 3]), (9, [0, 1, 2, 3]), (12, [0, 1, 2, 3]), (15, [0, 1, 2, 3]), (16, [0, 1, 3]), (17, [0, 1, 3]), (18, [0, 1, 3]), (21, [0, 1, 3]), (22, [0, 1, 3]), (23, [0, 1, 3]), (26, [0, 1, 3]), (29, [0, 1, 3]), (30, [0, 1, 3]), (31, [0, 1, 3]), (32, [0, 1, 3]), (33, [0, 1, 3]), (34, [0, 1, 3]), (35, [0, 1, 3]), (36, [0, 1, 2, 3]), (39, [0, 1, 2, 3]), (42, [2]), (43, [])]
set_option maxRecDepth 100000 in
theorem lv_30 : chkLv M_30 LV_30 = true := by decide +kernel
set_option maxRecDepth 100000 in
theorem lva_30_4 : lvA LV_30 4 = [0, 1, 2, 3] := by decide +kernel
set_option maxRecDepth 100000 in
theorem p_30_0 {n d : Nat} {Q : Option Value → Sg → Prop} (σ : Sg) (x1 : Int32) (h : Pl PRG n d 30 4 [(0, .ref 22), (1, .int x1), (2, .int (0 : Int32)), (3, .int (0 : Int32))] [] σ Q) : Pl PRG (n + 1) d 30 0 [(0, .ref 22), (1, .int x1)] [] σ Q := by
  have hM : PRG[30]? = some M_30 := rfl
  refine Pl.sg1 (pc' := 4) (ls' := [(3, .int (0 : Int32)), (2, .int (0 : Int32)), (0, .ref 22), (1, .int x1)]) (st' := []) (σ' := σ) hM 3 rfl ?_
  exact Pl.live (l' := [(0, .ref 22), (1, .int x1), (2, .int (0 : Int32)), (3, .int (0 : Int32))]) hM lv_30 ⟨show ndL _ from (by decide : List.Nodup ([3, 2, 0, 1] : List Nat)), show ndL _ from (by decide : List.Nodup ([0, 1, 2, 3] : List Nat)), by rw [lva_30_4]; exact List.forall_mem_cons.mpr ⟨rfl, List.forall_mem_cons.mpr ⟨rfl, List.forall_mem_cons.mpr ⟨rfl, List.forall_mem_cons.mpr ⟨rfl, fun _ h => absurd h List.not_mem_nil⟩⟩⟩⟩⟩ h
set_option maxRecDepth 100000 in
theorem p_30_4 {n d : Nat} {Q : Option Value → Sg → Prop} (σ : Sg) (x1 x2 x3 : Int32) (h : (((σ.1 3 11) ≤ x3 → Q (some (.int x2)) σ) ∧ (¬ (σ.1 3 11) ≤ x3 → (inR ((x1 * (σ.1 3 11)) + x3) 16 = true → Pl PRG n d 30 4 [(0, .ref 22), (1, .int x1), (2, .int (x2 ||| ((1 : Int32) <<< ((σ.1 25 ((x1 * (σ.1 3 11)) + x3).toNatClampNeg) &&& 31)))), (3, .int (x3 + (1 : Int32)))] [] σ Q)))) : Pl PRG (n + 1) d 30 4 [(0, .ref 22), (1, .int x1), (2, .int x2), (3, .int x3)] [] σ Q := by
  have hM : PRG[30]? = some M_30 := rfl
  refine Pl.br1 (c := (σ.1 3 11) ≤ x3) (a := 42) (b := 15) (ls' := [(0, .ref 22), (1, .int x1), (2, .int x2), (3, .int x3)]) (st' := []) (σ' := σ) hM 4 rfl (fun c => ?_) (fun c => ?_)
  · replace h := h.1 c
    refine Pl.seg (pc' := 43) (ls' := [(0, .ref 22), (1, .int x1), (2, .int x2), (3, .int x3)]) (st' := [.int x2]) (σ' := σ) hM 1 rfl ?_
    refine Pl.weak (Pl.ret hM rfl rfl h)
  · replace h := h.2 c
    refine Pl.seg (pc' := 32) (ls' := [(0, .ref 22), (1, .int x1), (2, .int x2), (3, .int x3)]) (st' := [.int ((x1 * (σ.1 3 11)) + x3), .ref 25, .int (1 : Int32), .int x2]) (σ' := σ) hM 11 rfl ?_
    refine Pl.weak (Pl.iald hM rfl rfl (fun hi => ?_))
    replace h := h hi
    refine Pl.seg (pc' := 4) (ls' := [(3, .int (x3 + (1 : Int32))), (2, .int (x2 ||| ((1 : Int32) <<< ((σ.1 25 ((x1 * (σ.1 3 11)) + x3).toNatClampNeg) &&& 31)))), (0, .ref 22), (1, .int x1)]) (st' := []) (σ' := σ) hM 5 rfl ?_
    exact Pl.live (l' := [(0, .ref 22), (1, .int x1), (2, .int (x2 ||| ((1 : Int32) <<< ((σ.1 25 ((x1 * (σ.1 3 11)) + x3).toNatClampNeg) &&& 31)))), (3, .int (x3 + (1 : Int32)))]) hM lv_30 ⟨show ndL _ from (by decide : List.Nodup ([3, 2, 0, 1] : List Nat)), show ndL _ from (by decide : List.Nodup ([0, 1, 2, 3] : List Nat)), by rw [lva_30_4]; exact List.forall_mem_cons.mpr ⟨rfl, List.forall_mem_cons.mpr ⟨rfl, List.forall_mem_cons.mpr ⟨rfl, List.forall_mem_cons.mpr ⟨rfl, fun _ h => absurd h List.not_mem_nil⟩⟩⟩⟩⟩ h
def LV_33 : List (Nat × List Nat) := [(0, [0, 1]), (1, [0, 1]), (2, [0, 1, 2]), (3, [0, 1, 2]), (4, [0, 1, 2]), (7, [0, 1, 2]), (10, [0, 1, 2]), (13, [0, 1, 2]), (14, [0, 1, 2]), (17, [0, 1, 2]), (18, [0, 1, 2]), (19, [0, 1, 2]), (20, [0, 1, 2]), (23, [0, 1, 2]), (26, [0, 1]), (27, [0, 1]), (30, [0, 1]), (33, [0, 1]), (34, [0, 1]), (35, [0, 1]), (36, [0, 1, 2]), (37, [0, 1, 2]), (38, [0, 1, 2]), (41, [0, 1, 2]), (42, [0, 1, 2]), (43, [0, 1, 2]), (44, [0, 1, 2]), (45, [0, 1, 2]), (46, [0, 1, 2]), (49, [0, 1, 2]), (50, [0, 1, 2, 3]), (51, [0, 1, 2, 3]), (54, [0, 1, 2, 3]), (55, [0, 1, 2, 3]), (56, [0, 1, 2, 3]), (58, [0, 1, 2, 3, 4]), (59, [0, 1, 2, 3, 4]), (62, [0, 1, 2, 3, 4]), (63, [0, 1, 2, 3, 4]), (64, [0, 1, 2, 3, 4]), (67, [0, 1, 2, 3, 4]), (68, [0, 1, 2, 3, 4]), (69, [0, 1, 2, 3, 4]), (70, [0, 1, 2, 3, 4]), (71, [0, 1, 2, 3, 4]), (74, [0, 1, 2, 3, 4]), (75, [0, 1, 2, 4]), (77, [0, 1, 2]), (78, [0, 1, 2]), (81, [0, 1, 2]), (84, [0]), (85, [0]), (86, [0]), (87, [0]), (90, [0]), (91, [0]), (92, [0]), (95, [0]), (96, [0]), (97, [0]), (100, [0]), (101, []), (102, []), (105, []), (108, [])]
set_option maxRecDepth 100000 in
theorem lv_33 : chkLv M_33 LV_33 = true := by decide +kernel
set_option maxRecDepth 100000 in
theorem lva_33_2 : lvA LV_33 2 = [0, 1, 2] := by decide +kernel
set_option maxRecDepth 100000 in
theorem lva_33_36 : lvA LV_33 36 = [0, 1, 2] := by decide +kernel
set_option maxRecDepth 100000 in
theorem p_33_0 {n d : Nat} {Q : Option Value → Sg → Prop} (σ : Sg) (x1 : Int32) (h : Pl PRG n d 33 2 [(0, .ref 22), (1, .int x1), (2, .int (0 : Int32))] [] σ Q) : Pl PRG (n + 1) d 33 0 [(0, .ref 22), (1, .int x1)] [] σ Q := by
  have hM : PRG[33]? = some M_33 := rfl
  refine Pl.sg1 (pc' := 2) (ls' := [(2, .int (0 : Int32)), (0, .ref 22), (1, .int x1)]) (st' := []) (σ' := σ) hM 1 rfl ?_
  exact Pl.live (l' := [(0, .ref 22), (1, .int x1), (2, .int (0 : Int32))]) hM lv_33 ⟨show ndL _ from (by decide : List.Nodup ([2, 0, 1] : List Nat)), show ndL _ from (by decide : List.Nodup ([0, 1, 2] : List Nat)), by rw [lva_33_2]; exact List.forall_mem_cons.mpr ⟨rfl, List.forall_mem_cons.mpr ⟨rfl, List.forall_mem_cons.mpr ⟨rfl, fun _ h => absurd h List.not_mem_nil⟩⟩⟩⟩ h
set_option maxRecDepth 100000 in
theorem p_33_2 {n d : Nat} {Q : Option Value → Sg → Prop} (σ : Sg) (x1 x2 : Int32) (h : (((σ.1 3 10) ≤ x2 → Pl PRG n d 33 36 [(0, .ref 22), (1, .int x1), (2, .int ((σ.1 3 10) - (1 : Int32)))] [] σ Q) ∧ (¬ (σ.1 3 10) ≤ x2 → (inR x2 16 = true → Pl PRG n d 33 2 [(0, .ref 22), (1, .int x1), (2, .int (x2 + (1 : Int32)))] [] (s1 σ 25 x2.toNatClampNeg x2) Q)))) : Pl PRG (n + 1) d 33 2 [(0, .ref 22), (1, .int x1), (2, .int x2)] [] σ Q := by
  have hM : PRG[33]? = some M_33 := rfl
  refine Pl.br1 (c := (σ.1 3 10) ≤ x2) (a := 26) (b := 13) (ls' := [(0, .ref 22), (1, .int x1), (2, .int x2)]) (st' := []) (σ' := σ) hM 4 rfl (fun c => ?_) (fun c => ?_)
  · replace h := h.1 c
    refine Pl.seg (pc' := 36) (ls' := [(2, .int ((σ.1 3 10) - (1 : Int32))), (0, .ref 22), (1, .int x1)]) (st' := []) (σ' := σ) hM 6 rfl ?_
    exact Pl.live (l' := [(0, .ref 22), (1, .int x1), (2, .int ((σ.1 3 10) - (1 : Int32)))]) hM lv_33 ⟨show ndL _ from (by decide : List.Nodup ([2, 0, 1] : List Nat)), show ndL _ from (by decide : List.Nodup ([0, 1, 2] : List Nat)), by rw [lva_33_36]; exact List.forall_mem_cons.mpr ⟨rfl, List.forall_mem_cons.mpr ⟨rfl, List.forall_mem_cons.mpr ⟨rfl, fun _ h => absurd h List.not_mem_nil⟩⟩⟩⟩ h
  · replace h := h.2 c
    refine Pl.seg (pc' := 19) (ls' := [(0, .ref 22), (1, .int x1), (2, .int x2)]) (st' := [.int x2, .int x2, .ref 25]) (σ' := σ) hM 4 rfl ?_
    refine Pl.weak (Pl.iast hM rfl rfl (fun hi => ?_))
    replace h := h hi
    refine Pl.seg (pc' := 2) (ls' := [(2, .int (x2 + (1 : Int32))), (0, .ref 22), (1, .int x1)]) (st' := []) (σ' := (s1 σ 25 x2.toNatClampNeg x2)) hM 2 rfl ?_
    exact Pl.live (l' := [(0, .ref 22), (1, .int x1), (2, .int (x2 + (1 : Int32)))]) hM lv_33 ⟨show ndL _ from (by decide : List.Nodup ([2, 0, 1] : List Nat)), show ndL _ from (by decide : List.Nodup ([0, 1, 2] : List Nat)), by rw [lva_33_2]; exact List.forall_mem_cons.mpr ⟨rfl, List.forall_mem_cons.mpr ⟨rfl, List.forall_mem_cons.mpr ⟨rfl, fun _ h => absurd h List.not_mem_nil⟩⟩⟩⟩ h
set_option maxRecDepth 100000 in
theorem p_33_36 {n d : Nat} {Q : Option Value → Sg → Prop} (σ : Sg) (x1 x2 : Int32) (h : ((x2 < (1 : Int32) → (∀ w2 σ1, RCx PRG n 30 [.ref 22, .int (0 : Int32)] σ (some (.int w2)) σ1 → (∀ w4 σ3, RCx PRG n 30 [.ref 22, .int (1 : Int32)] σ1 (some (.int w4)) σ3 → (∀ w6 σ5, RCx PRG n 30 [.ref 22, .int (2 : Int32)] σ3 (some (.int w6)) σ5 → (∀ w8 σ7, RCx PRG n 30 [.ref 22, .int (3 : Int32)] σ5 (some (.int w8)) σ7 → (∀ σ9, RCx PRG n 32 [.ref 22, .int w2, .int w4, .int w6, .int w8] σ7 none σ9 → Q none σ9)))))) ∧ (¬ x2 < (1 : Int32) → (∀ w11 σ10, RCx PRG n 29 [.int (x2 + (1 : Int32)), .int x1, .int x2] σ (some (.int w11)) σ10 → (inR x2 16 = true → (inR w11 16 = true → (inR x2 16 = true → (inR w11 16 = true → Pl PRG n d 33 36 [(0, .ref 22), (1, .int x1), (2, .int (x2 + (-1 : Int32)))] [] (s1 (s1 σ10 25 x2.toNatClampNeg (σ10.1 25 w11.toNatClampNeg)) 25 w11.toNatClampNeg (σ10.1 25 x2.toNatClampNeg)) Q)))))))) : Pl PRG (n + 1) d 33 36 [(0, .ref 22), (1, .int x1), (2, .int x2)] [] σ Q := by
  have hM : PRG[33]? = some M_33 := rfl
  refine Pl.br1 (c := x2 < (1 : Int32)) (a := 84) (b := 41) (ls' := [(0, .ref 22), (1, .int x1), (2, .int x2)]) (st' := []) (σ' := σ) hM 2 rfl (fun c => ?_) (fun c => ?_)
  · replace h := h.1 c
    refine Pl.seg (pc' := 87) (ls' := [(0, .ref 22), (1, .int x1), (2, .int x2)]) (st' := [.int (0 : Int32), .ref 22, .ref 22]) (σ' := σ) hM 3 rfl ?_
    refine Pl.weak (Pl.cI hM rfl rfl (by decide) (Mj := M_30) rfl rfl (fun w2 σ1 hw => ?_))
    replace h := h w2 σ1 hw
    refine Pl.seg (pc' := 92) (ls' := [(0, .ref 22), (1, .int x1), (2, .int x2)]) (st' := [.int (1 : Int32), .ref 22, .int w2, .ref 22]) (σ' := σ1) hM 2 rfl ?_
    refine Pl.weak (Pl.cI hM rfl rfl (by decide) (Mj := M_30) rfl rfl (fun w4 σ3 hw => ?_))
    replace h := h w4 σ3 hw
    refine Pl.seg (pc' := 97) (ls' := [(0, .ref 22), (1, .int x1), (2, .int x2)]) (st' := [.int (2 : Int32), .ref 22, .int w4, .int w2, .ref 22]) (σ' := σ3) hM 2 rfl ?_
    refine Pl.weak (Pl.cI hM rfl rfl (by decide) (Mj := M_30) rfl rfl (fun w6 σ5 hw => ?_))
    replace h := h w6 σ5 hw
    refine Pl.seg (pc' := 102) (ls' := [(0, .ref 22), (1, .int x1), (2, .int x2)]) (st' := [.int (3 : Int32), .ref 22, .int w6, .int w4, .int w2, .ref 22]) (σ' := σ5) hM 2 rfl ?_
    refine Pl.weak (Pl.cI hM rfl rfl (by decide) (Mj := M_30) rfl rfl (fun w8 σ7 hw => ?_))
    replace h := h w8 σ7 hw
    refine Pl.weak (Pl.cV hM rfl rfl (by decide) (Mj := M_32) rfl rfl (fun σ9 hw => ?_))
    replace h := h σ9 hw
    refine Pl.weak (Pl.ret hM rfl rfl h)
  · replace h := h.2 c
    refine Pl.seg (pc' := 46) (ls' := [(0, .ref 22), (1, .int x1), (2, .int x2)]) (st' := [.int x2, .int x1, .int (x2 + (1 : Int32))]) (σ' := σ) hM 5 rfl ?_
    refine Pl.weak (Pl.cI hM rfl rfl (by decide) (Mj := M_29) rfl rfl (fun w11 σ10 hw => ?_))
    replace h := h w11 σ10 hw
    refine Pl.seg (pc' := 55) (ls' := [(3, .int w11), (0, .ref 22), (1, .int x1), (2, .int x2)]) (st' := [.int x2, .ref 25]) (σ' := σ10) hM 4 rfl ?_
    refine Pl.weak (Pl.iald hM rfl rfl (fun hi => ?_))
    replace h := h hi
    refine Pl.seg (pc' := 68) (ls' := [(4, .int (σ10.1 25 x2.toNatClampNeg)), (3, .int w11), (0, .ref 22), (1, .int x1), (2, .int x2)]) (st' := [.int w11, .ref 25, .int x2, .ref 25]) (σ' := σ10) hM 7 rfl ?_
    refine Pl.weak (Pl.iald hM rfl rfl (fun hi => ?_))
    replace h := h hi
    refine Pl.weak (Pl.iast hM rfl rfl (fun hi => ?_))
    replace h := h hi
    refine Pl.seg (pc' := 77) (ls' := [(4, .int (σ10.1 25 x2.toNatClampNeg)), (3, .int w11), (0, .ref 22), (1, .int x1), (2, .int x2)]) (st' := [.int (σ10.1 25 x2.toNatClampNeg), .int w11, .ref 25]) (σ' := (s1 σ10 25 x2.toNatClampNeg (σ10.1 25 w11.toNatClampNeg))) hM 4 rfl ?_
    refine Pl.weak (Pl.iast hM rfl rfl (fun hi => ?_))
    replace h := h hi
    refine Pl.seg (pc' := 36) (ls' := [(2, .int (x2 + (-1 : Int32))), (4, .int (σ10.1 25 x2.toNatClampNeg)), (3, .int w11), (0, .ref 22), (1, .int x1)]) (st' := []) (σ' := (s1 (s1 σ10 25 x2.toNatClampNeg (σ10.1 25 w11.toNatClampNeg)) 25 w11.toNatClampNeg (σ10.1 25 x2.toNatClampNeg))) hM 2 rfl ?_
    exact Pl.live (l' := [(0, .ref 22), (1, .int x1), (2, .int (x2 + (-1 : Int32)))]) hM lv_33 ⟨show ndL _ from (by decide : List.Nodup ([2, 4, 3, 0, 1] : List Nat)), show ndL _ from (by decide : List.Nodup ([0, 1, 2] : List Nat)), by rw [lva_33_36]; exact List.forall_mem_cons.mpr ⟨rfl, List.forall_mem_cons.mpr ⟨rfl, List.forall_mem_cons.mpr ⟨rfl, fun _ h => absurd h List.not_mem_nil⟩⟩⟩⟩ h
set_option maxRecDepth 100000 in
theorem p_32_b46_0 {n d : Nat} {Q : Option Value → Sg → Prop} (σ : Sg) (x1 x2 x3 x4 : Int32) (h : Pl PRG n d 32 32 [(0, .ref 46), (5, .int (0 : Int32))] [] (s1 (s1 (s1 (s1 σ 47 0 x1) 47 1 x2) 47 2 x3) 47 3 x4) Q) : Pl PRG (n + 1) d 32 0 [(0, .ref 46), (1, .int x1), (2, .int x2), (3, .int x3), (4, .int x4)] [] σ Q := by
  have hM : PRG[32]? = some M_32 := rfl
  refine Pl.sg1 (pc' := 32) (ls' := [(5, .int (0 : Int32)), (0, .ref 46), (1, .int x1), (2, .int x2), (3, .int x3), (4, .int x4)]) (st' := []) (σ' := (s1 (s1 (s1 (s1 σ 47 0 x1) 47 1 x2) 47 2 x3) 47 3 x4)) hM 21 rfl ?_
  exact Pl.live (l' := [(0, .ref 46), (5, .int (0 : Int32))]) hM lv_32 ⟨show ndL _ from (by decide : List.Nodup ([5, 0, 1, 2, 3, 4] : List Nat)), show ndL _ from (by decide : List.Nodup ([0, 5] : List Nat)), by rw [lva_32_32]; exact List.forall_mem_cons.mpr ⟨rfl, List.forall_mem_cons.mpr ⟨rfl, fun _ h => absurd h List.not_mem_nil⟩⟩⟩ h
set_option maxRecDepth 100000 in
theorem p_32_b46_32 {n d : Nat} {Q : Option Value → Sg → Prop} (σ : Sg) (x5 : Int32) (h : (((4 : Int32) ≤ x5 → (∀ σ1, RCx PRG n 31 [.ref 46, .int (0 : Int32)] (s1 (s1 σ 46 2 (1 : Int32)) 46 7 (0 : Int32)) none σ1 → Q none σ1)) ∧ (¬ (4 : Int32) ≤ x5 → (inR x5 4 = true → (inR x5 4 = true → Pl PRG n d 32 32 [(0, .ref 46), (5, .int (x5 + (1 : Int32)))] [] (s1 σ 48 x5.toNatClampNeg (σ.1 47 x5.toNatClampNeg)) Q))))) : Pl PRG (n + 1) d 32 32 [(0, .ref 46), (5, .int x5)] [] σ Q := by
  have hM : PRG[32]? = some M_32 := rfl
  refine Pl.br1 (c := (4 : Int32) ≤ x5) (a := 58) (b := 38) (ls' := [(0, .ref 46), (5, .int x5)]) (st' := []) (σ' := σ) hM 2 rfl (fun c => ?_) (fun c => ?_)
  · replace h := h.1 c
    refine Pl.seg (pc' := 70) (ls' := [(0, .ref 46), (5, .int x5)]) (st' := [.int (0 : Int32), .ref 46]) (σ' := (s1 (s1 σ 46 2 (1 : Int32)) 46 7 (0 : Int32))) hM 8 rfl ?_
    refine Pl.weak (Pl.cV hM rfl rfl (by decide) (Mj := M_31) rfl rfl (fun σ1 hw => ?_))
    replace h := h σ1 hw
    refine Pl.weak (Pl.ret hM rfl rfl h)
  · replace h := h.2 c
    refine Pl.seg (pc' := 50) (ls' := [(0, .ref 46), (5, .int x5)]) (st' := [.int x5, .ref 47, .int x5, .ref 48]) (σ' := σ) hM 6 rfl ?_
    refine Pl.weak (Pl.iald hM rfl rfl (fun hi => ?_))
    replace h := h hi
    refine Pl.weak (Pl.iast hM rfl rfl (fun hi => ?_))
    replace h := h hi
    refine Pl.seg (pc' := 32) (ls' := [(5, .int (x5 + (1 : Int32))), (0, .ref 46)]) (st' := []) (σ' := (s1 σ 48 x5.toNatClampNeg (σ.1 47 x5.toNatClampNeg))) hM 2 rfl ?_
    exact Pl.live (l' := [(0, .ref 46), (5, .int (x5 + (1 : Int32)))]) hM lv_32 ⟨show ndL _ from (by decide : List.Nodup ([5, 0] : List Nat)), show ndL _ from (by decide : List.Nodup ([0, 5] : List Nat)), by rw [lva_32_32]; exact List.forall_mem_cons.mpr ⟨rfl, List.forall_mem_cons.mpr ⟨rfl, fun _ h => absurd h List.not_mem_nil⟩⟩⟩ h
set_option maxRecDepth 100000 in
theorem p_31_b46_0 {n d : Nat} {Q : Option Value → Sg → Prop} (σ : Sg) (x1 : Int32) (h : Q none (s1 (s1 (s1 σ 46 5 x1) 46 6 x1) 46 17 ((σ.1 46 17) + (1 : Int32)))) : Pl PRG (n + 1) d 31 0 [(0, .ref 46), (1, .int x1)] [] σ Q := by
  have hM : PRG[31]? = some M_31 := rfl
  refine Pl.sg1 (pc' := 20) (ls' := [(0, .ref 46), (1, .int x1)]) (st' := []) (σ' := (s1 (s1 (s1 σ 46 5 x1) 46 6 x1) 46 17 ((σ.1 46 17) + (1 : Int32)))) hM 11 rfl ?_
  refine Pl.weak (Pl.ret hM rfl rfl h)
set_option maxRecDepth 100000 in
theorem p_66_b46_0 {n d : Nat} {Q : Option Value → Sg → Prop} (σ : Sg) (h : Q none (s1 (s1 (s1 (s1 σ 46 2 (0 : Int32)) 46 7 (0 : Int32)) 46 6 (-2 : Int32)) 46 17 ((σ.1 46 17) + (1 : Int32)))) : Pl PRG (n + 1) d 66 0 [(0, .ref 46)] [] σ Q := by
  have hM : PRG[66]? = some M_66 := rfl
  refine Pl.sg1 (pc' := 26) (ls' := [(0, .ref 46)]) (st' := []) (σ' := (s1 (s1 (s1 (s1 σ 46 2 (0 : Int32)) 46 7 (0 : Int32)) 46 6 (-2 : Int32)) 46 17 ((σ.1 46 17) + (1 : Int32)))) hM 14 rfl ?_
  refine Pl.weak (Pl.ret hM rfl rfl h)
set_option maxRecDepth 100000 in
theorem p_63_b46_0 {n d : Nat} {Q : Option Value → Sg → Prop} (σ : Sg) (x1 : Int32) (h : (((σ.1 46 6) < 0 → Pl PRG n d 63 26 [] [] σ Q) ∧ (¬ (σ.1 46 6) < 0 → (((16 : Int32) ≤ (σ.1 46 7) → Pl PRG n d 63 26 [] [] σ Q) ∧ (¬ (16 : Int32) ≤ (σ.1 46 7) → ((x1 < 0 → Pl PRG n d 63 26 [] [] σ Q) ∧ (¬ x1 < 0 → ((x1 < (16 : Int32) → (∀ w2 σ1, RCx PRG n 34 [.ref 46] σ (some (.int w2)) σ1 → (inR (σ1.1 46 7) 16 = true → (inR (σ1.1 46 7) 16 = true → (inR (σ1.1 46 7) 16 = true → (∀ w4 σ3, RCx PRG n 37 [.ref 46, .int x1, .int w2] (s1 (s1 (s1 σ1 49 (σ1.1 46 7).toNatClampNeg x1) 50 (σ1.1 46 7).toNatClampNeg (σ1.1 46 6)) 52 (σ1.1 46 7).toNatClampNeg w2) (some (.int w4)) σ3 → (inR (σ1.1 46 7) 16 = true → (∀ w6 σ5, RCx PRG n 36 [.ref 46, .int x1] (s1 σ3 51 (σ1.1 46 7).toNatClampNeg w4) (some (.int w6)) σ5 → (inR (σ3.1 46 7) 16 = true → (inR (σ5.1 46 7) 16 = true → (((σ5.1 51 (σ5.1 46 7).toNatClampNeg) = (2 : Int32) → (inR (σ5.1 46 6) 4 = true → (inR w2 4 = true → ((((σ5.1 48 (σ5.1 46 6).toNatClampNeg) &&& (σ5.1 9 w2.toNatClampNeg)) = 0 → (inR (σ5.1 46 7) 16 = true → (∀ w15 σ14, RCx PRG n 39 [.ref 46, .int x1] (s1 (s1 σ5 53 (σ3.1 46 7).toNatClampNeg w6) 54 (σ5.1 46 7).toNatClampNeg (0 : Int32)) (some (.int w15)) σ14 → (inR (σ5.1 46 7) 16 = true → (inR (σ14.1 46 6) 4 = true → (∀ σ16, RCx PRG n 11 [.ref 12, .int (σ14.1 48 (σ14.1 46 6).toNatClampNeg)] (s1 σ14 55 (σ5.1 46 7).toNatClampNeg w15) none σ16 → (inR (σ16.1 46 7) 16 = true → (∀ w18 σ17, RCx PRG n 13 [.ref 12, .int (σ16.1 55 (σ16.1 46 7).toNatClampNeg)] σ16 (some (.int w18)) σ17 → (inR (σ16.1 46 7) 16 = true → (inR (σ17.1 46 6) 4 = true → (inR (σ17.1 46 6) 4 = true → (((((σ17.1 46 7) + (1 : Int32)) - ((σ17.1 46 7) + (1 : Int32)) / (4 : Int32) * (4 : Int32)) = 0 → (∀ w20 σ19, RCx PRG n 45 [.ref 46, .int (((σ17.1 46 7) + (1 : Int32)) - (4 : Int32))] (s1 (s1 (s1 σ17 56 (σ16.1 46 7).toNatClampNeg w18) 48 (σ17.1 46 6).toNatClampNeg ((σ17.1 48 (σ17.1 46 6).toNatClampNeg) &&& (((1 : Int32) <<< (x1 &&& 31)) ^^^ (-1 : Int32)))) 46 7 ((σ17.1 46 7) + (1 : Int32))) (some (.int w20)) σ19 → (inR w20 16 = true → (inR ((((σ17.1 46 7) + (1 : Int32)) / (4 : Int32)) - (1 : Int32)) 4 = true → Pl PRG n d 63 262 [(0, .ref 46)] [] (s1 σ19 57 ((((σ17.1 46 7) + (1 : Int32)) / (4 : Int32)) - (1 : Int32)).toNatClampNeg (σ19.1 50 w20.toNatClampNeg)) Q)))) ∧ (¬ (((σ17.1 46 7) + (1 : Int32)) - ((σ17.1 46 7) + (1 : Int32)) / (4 : Int32) * (4 : Int32)) = 0 → Pl PRG n d 63 262 [(0, .ref 46)] [] (s1 (s1 (s1 σ17 56 (σ16.1 46 7).toNatClampNeg w18) 48 (σ17.1 46 6).toNatClampNeg ((σ17.1 48 (σ17.1 46 6).toNatClampNeg) &&& (((1 : Int32) <<< (x1 &&& 31)) ^^^ (-1 : Int32)))) 46 7 ((σ17.1 46 7) + (1 : Int32))) Q))))))))))))) ∧ (¬ ((σ5.1 48 (σ5.1 46 6).toNatClampNeg) &&& (σ5.1 9 w2.toNatClampNeg)) = 0 → (inR (σ5.1 46 7) 16 = true → (∀ w22 σ21, RCx PRG n 39 [.ref 46, .int x1] (s1 (s1 σ5 53 (σ3.1 46 7).toNatClampNeg w6) 54 (σ5.1 46 7).toNatClampNeg (1 : Int32)) (some (.int w22)) σ21 → (inR (σ5.1 46 7) 16 = true → (inR (σ21.1 46 6) 4 = true → (∀ σ23, RCx PRG n 11 [.ref 12, .int (σ21.1 48 (σ21.1 46 6).toNatClampNeg)] (s1 σ21 55 (σ5.1 46 7).toNatClampNeg w22) none σ23 → (inR (σ23.1 46 7) 16 = true → (∀ w25 σ24, RCx PRG n 13 [.ref 12, .int (σ23.1 55 (σ23.1 46 7).toNatClampNeg)] σ23 (some (.int w25)) σ24 → (inR (σ23.1 46 7) 16 = true → (inR (σ24.1 46 6) 4 = true → (inR (σ24.1 46 6) 4 = true → (((((σ24.1 46 7) + (1 : Int32)) - ((σ24.1 46 7) + (1 : Int32)) / (4 : Int32) * (4 : Int32)) = 0 → (∀ w27 σ26, RCx PRG n 45 [.ref 46, .int (((σ24.1 46 7) + (1 : Int32)) - (4 : Int32))] (s1 (s1 (s1 σ24 56 (σ23.1 46 7).toNatClampNeg w25) 48 (σ24.1 46 6).toNatClampNeg ((σ24.1 48 (σ24.1 46 6).toNatClampNeg) &&& (((1 : Int32) <<< (x1 &&& 31)) ^^^ (-1 : Int32)))) 46 7 ((σ24.1 46 7) + (1 : Int32))) (some (.int w27)) σ26 → (inR w27 16 = true → (inR ((((σ24.1 46 7) + (1 : Int32)) / (4 : Int32)) - (1 : Int32)) 4 = true → Pl PRG n d 63 262 [(0, .ref 46)] [] (s1 σ26 57 ((((σ24.1 46 7) + (1 : Int32)) / (4 : Int32)) - (1 : Int32)).toNatClampNeg (σ26.1 50 w27.toNatClampNeg)) Q)))) ∧ (¬ (((σ24.1 46 7) + (1 : Int32)) - ((σ24.1 46 7) + (1 : Int32)) / (4 : Int32) * (4 : Int32)) = 0 → Pl PRG n d 63 262 [(0, .ref 46)] [] (s1 (s1 (s1 σ24 56 (σ23.1 46 7).toNatClampNeg w25) 48 (σ24.1 46 6).toNatClampNeg ((σ24.1 48 (σ24.1 46 6).toNatClampNeg) &&& (((1 : Int32) <<< (x1 &&& 31)) ^^^ (-1 : Int32)))) 46 7 ((σ24.1 46 7) + (1 : Int32))) Q))))))))))))))))) ∧ (¬ (σ5.1 51 (σ5.1 46 7).toNatClampNeg) = (2 : Int32) → (inR (σ5.1 46 7) 16 = true → (∀ w8 σ7, RCx PRG n 39 [.ref 46, .int x1] (s1 (s1 σ5 53 (σ3.1 46 7).toNatClampNeg w6) 54 (σ5.1 46 7).toNatClampNeg (0 : Int32)) (some (.int w8)) σ7 → (inR (σ5.1 46 7) 16 = true → (inR (σ7.1 46 6) 4 = true → (∀ σ9, RCx PRG n 11 [.ref 12, .int (σ7.1 48 (σ7.1 46 6).toNatClampNeg)] (s1 σ7 55 (σ5.1 46 7).toNatClampNeg w8) none σ9 → (inR (σ9.1 46 7) 16 = true → (∀ w11 σ10, RCx PRG n 13 [.ref 12, .int (σ9.1 55 (σ9.1 46 7).toNatClampNeg)] σ9 (some (.int w11)) σ10 → (inR (σ9.1 46 7) 16 = true → (inR (σ10.1 46 6) 4 = true → (inR (σ10.1 46 6) 4 = true → (((((σ10.1 46 7) + (1 : Int32)) - ((σ10.1 46 7) + (1 : Int32)) / (4 : Int32) * (4 : Int32)) = 0 → (∀ w13 σ12, RCx PRG n 45 [.ref 46, .int (((σ10.1 46 7) + (1 : Int32)) - (4 : Int32))] (s1 (s1 (s1 σ10 56 (σ9.1 46 7).toNatClampNeg w11) 48 (σ10.1 46 6).toNatClampNeg ((σ10.1 48 (σ10.1 46 6).toNatClampNeg) &&& (((1 : Int32) <<< (x1 &&& 31)) ^^^ (-1 : Int32)))) 46 7 ((σ10.1 46 7) + (1 : Int32))) (some (.int w13)) σ12 → (inR w13 16 = true → (inR ((((σ10.1 46 7) + (1 : Int32)) / (4 : Int32)) - (1 : Int32)) 4 = true → Pl PRG n d 63 262 [(0, .ref 46)] [] (s1 σ12 57 ((((σ10.1 46 7) + (1 : Int32)) / (4 : Int32)) - (1 : Int32)).toNatClampNeg (σ12.1 50 w13.toNatClampNeg)) Q)))) ∧ (¬ (((σ10.1 46 7) + (1 : Int32)) - ((σ10.1 46 7) + (1 : Int32)) / (4 : Int32) * (4 : Int32)) = 0 → Pl PRG n d 63 262 [(0, .ref 46)] [] (s1 (s1 (s1 σ10 56 (σ9.1 46 7).toNatClampNeg w11) 48 (σ10.1 46 6).toNatClampNeg ((σ10.1 48 (σ10.1 46 6).toNatClampNeg) &&& (((1 : Int32) <<< (x1 &&& 31)) ^^^ (-1 : Int32)))) 46 7 ((σ10.1 46 7) + (1 : Int32))) Q)))))))))))))))))))))))) ∧ (¬ x1 < (16 : Int32) → Pl PRG n d 63 26 [] [] σ Q))))))))) : Pl PRG (n + 1) d 63 0 [(0, .ref 46), (1, .int x1)] [] σ Q := by
  have hM : PRG[63]? = some M_63 := rfl
  refine Pl.br1 (c := (σ.1 46 6) < 0) (a := 26) (b := 7) (ls' := [(0, .ref 46), (1, .int x1)]) (st' := []) (σ' := σ) hM 2 rfl (fun c => ?_) (fun c => ?_)
  · replace h := h.1 c
    exact Pl.live (l' := []) hM lv_63 ⟨show ndL _ from (by decide : List.Nodup ([0, 1] : List Nat)), show ndL _ from (by decide : List.Nodup ([] : List Nat)), by rw [lva_63_26]; exact fun _ h => absurd h List.not_mem_nil⟩ h
  · replace h := h.2 c
    refine Pl.br (c := (16 : Int32) ≤ (σ.1 46 7)) (a := 26) (b := 16) (ls' := [(0, .ref 46), (1, .int x1)]) (st' := []) (σ' := σ) hM 4 rfl (fun c => ?_) (fun c => ?_)
    · replace h := h.1 c
      exact Pl.live (l' := []) hM lv_63 ⟨show ndL _ from (by decide : List.Nodup ([0, 1] : List Nat)), show ndL _ from (by decide : List.Nodup ([] : List Nat)), by rw [lva_63_26]; exact fun _ h => absurd h List.not_mem_nil⟩ h
    · replace h := h.2 c
      refine Pl.br (c := x1 < 0) (a := 26) (b := 20) (ls' := [(0, .ref 46), (1, .int x1)]) (st' := []) (σ' := σ) hM 2 rfl (fun c => ?_) (fun c => ?_)
      · replace h := h.1 c
        exact Pl.live (l' := []) hM lv_63 ⟨show ndL _ from (by decide : List.Nodup ([0, 1] : List Nat)), show ndL _ from (by decide : List.Nodup ([] : List Nat)), by rw [lva_63_26]; exact fun _ h => absurd h List.not_mem_nil⟩ h
      · replace h := h.2 c
        refine Pl.br (c := x1 < (16 : Int32)) (a := 27) (b := 26) (ls' := [(0, .ref 46), (1, .int x1)]) (st' := []) (σ' := σ) hM 3 rfl (fun c => ?_) (fun c => ?_)
        · replace h := h.1 c
          refine Pl.seg (pc' := 28) (ls' := [(0, .ref 46), (1, .int x1)]) (st' := [.ref 46]) (σ' := σ) hM 1 rfl ?_
          refine Pl.weak (Pl.cI hM rfl rfl (by decide) (Mj := M_34) rfl rfl (fun w2 σ1 hw => ?_))
          replace h := h w2 σ1 hw
          refine Pl.seg (pc' := 41) (ls' := [(2, .int w2), (0, .ref 46), (1, .int x1)]) (st' := [.int x1, .int (σ1.1 46 7), .ref 49]) (σ' := σ1) hM 6 rfl ?_
          refine Pl.weak (Pl.iast hM rfl rfl (fun hi => ?_))
          replace h := h hi
          refine Pl.seg (pc' := 54) (ls' := [(2, .int w2), (0, .ref 46), (1, .int x1)]) (st' := [.int (σ1.1 46 6), .int (σ1.1 46 7), .ref 50]) (σ' := (s1 σ1 49 (σ1.1 46 7).toNatClampNeg x1)) hM 6 rfl ?_
          refine Pl.weak (Pl.iast hM rfl rfl (fun hi => ?_))
          replace h := h hi
          refine Pl.seg (pc' := 64) (ls' := [(2, .int w2), (0, .ref 46), (1, .int x1)]) (st' := [.int w2, .int (σ1.1 46 7), .ref 52]) (σ' := (s1 (s1 σ1 49 (σ1.1 46 7).toNatClampNeg x1) 50 (σ1.1 46 7).toNatClampNeg (σ1.1 46 6))) hM 5 rfl ?_
          refine Pl.weak (Pl.iast hM rfl rfl (fun hi => ?_))
          replace h := h hi
          refine Pl.seg (pc' := 76) (ls' := [(2, .int w2), (0, .ref 46), (1, .int x1)]) (st' := [.int w2, .int x1, .ref 46, .int (σ1.1 46 7), .ref 51]) (σ' := (s1 (s1 (s1 σ1 49 (σ1.1 46 7).toNatClampNeg x1) 50 (σ1.1 46 7).toNatClampNeg (σ1.1 46 6)) 52 (σ1.1 46 7).toNatClampNeg w2)) hM 7 rfl ?_
          refine Pl.weak (Pl.cI hM rfl rfl (by decide) (Mj := M_37) rfl rfl (fun w4 σ3 hw => ?_))
          replace h := h w4 σ3 hw
          refine Pl.weak (Pl.iast hM rfl rfl (fun hi => ?_))
          replace h := h hi
          refine Pl.seg (pc' := 90) (ls' := [(2, .int w2), (0, .ref 46), (1, .int x1)]) (st' := [.int x1, .ref 46, .int (σ3.1 46 7), .ref 53]) (σ' := (s1 σ3 51 (σ1.1 46 7).toNatClampNeg w4)) hM 6 rfl ?_
          refine Pl.weak (Pl.cI hM rfl rfl (by decide) (Mj := M_36) rfl rfl (fun w6 σ5 hw => ?_))
          replace h := h w6 σ5 hw
          refine Pl.weak (Pl.iast hM rfl rfl (fun hi => ?_))
          replace h := h hi
          refine Pl.seg (pc' := 110) (ls' := [(2, .int w2), (0, .ref 46), (1, .int x1)]) (st' := [.int (σ5.1 46 7), .ref 51, .int (σ5.1 46 7), .ref 54]) (σ' := (s1 σ5 53 (σ3.1 46 7).toNatClampNeg w6)) hM 8 rfl ?_
          refine Pl.weak (Pl.iald hM rfl rfl (fun hi => ?_))
          replace h := h hi
          refine Pl.brN (c := (σ5.1 51 (σ5.1 46 7).toNatClampNeg) = (2 : Int32)) (a := 141) (b := 115) (ls' := [(2, .int w2), (0, .ref 46), (1, .int x1)]) (st' := [.int (σ5.1 46 7), .ref 54]) (σ' := (s1 σ5 53 (σ3.1 46 7).toNatClampNeg w6)) hM 2 rfl (fun c => ?_) (fun c => ?_)
          · replace h := h.2 c
            refine Pl.seg (pc' := 142) (ls' := [(2, .int w2), (0, .ref 46), (1, .int x1)]) (st' := [.int (0 : Int32), .int (σ5.1 46 7), .ref 54]) (σ' := (s1 σ5 53 (σ3.1 46 7).toNatClampNeg w6)) hM 1 rfl ?_
            refine Pl.weak (Pl.iast hM rfl rfl (fun hi => ?_))
            replace h := h hi
            refine Pl.seg (pc' := 153) (ls' := [(2, .int w2), (0, .ref 46), (1, .int x1)]) (st' := [.int x1, .ref 46, .int (σ5.1 46 7), .ref 55]) (σ' := (s1 (s1 σ5 53 (σ3.1 46 7).toNatClampNeg w6) 54 (σ5.1 46 7).toNatClampNeg (0 : Int32))) hM 6 rfl ?_
            refine Pl.weak (Pl.cI hM rfl rfl (by decide) (Mj := M_39) rfl rfl (fun w8 σ7 hw => ?_))
            replace h := h w8 σ7 hw
            refine Pl.weak (Pl.iast hM rfl rfl (fun hi => ?_))
            replace h := h hi
            refine Pl.seg (pc' := 169) (ls' := [(2, .int w2), (0, .ref 46), (1, .int x1)]) (st' := [.int (σ7.1 46 6), .ref 48, .ref 12]) (σ' := (s1 σ7 55 (σ5.1 46 7).toNatClampNeg w8)) hM 6 rfl ?_
            refine Pl.weak (Pl.iald hM rfl rfl (fun hi => ?_))
            replace h := h hi
            refine Pl.weak (Pl.cV hM rfl rfl (by decide) (Mj := M_11) rfl rfl (fun σ9 hw => ?_))
            replace h := h σ9 hw
            refine Pl.seg (pc' := 193) (ls' := [(2, .int w2), (0, .ref 46), (1, .int x1)]) (st' := [.int (σ9.1 46 7), .ref 55, .ref 12, .int (σ9.1 46 7), .ref 56]) (σ' := σ9) hM 10 rfl ?_
            refine Pl.weak (Pl.iald hM rfl rfl (fun hi => ?_))
            replace h := h hi
            refine Pl.weak (Pl.cI hM rfl rfl (by decide) (Mj := M_13) rfl rfl (fun w11 σ10 hw => ?_))
            replace h := h w11 σ10 hw
            refine Pl.weak (Pl.iast hM rfl rfl (fun hi => ?_))
            replace h := h hi
            refine Pl.seg (pc' := 207) (ls' := [(2, .int w2), (0, .ref 46), (1, .int x1)]) (st' := [.int (σ10.1 46 6), .ref 48, .int (σ10.1 46 6), .ref 48]) (σ' := (s1 σ10 56 (σ9.1 46 7).toNatClampNeg w11)) hM 5 rfl ?_
            refine Pl.weak (Pl.iald hM rfl rfl (fun hi => ?_))
            replace h := h hi
            refine Pl.seg (pc' := 214) (ls' := [(2, .int w2), (0, .ref 46), (1, .int x1)]) (st' := [.int ((σ10.1 48 (σ10.1 46 6).toNatClampNeg) &&& (((1 : Int32) <<< (x1 &&& 31)) ^^^ (-1 : Int32))), .int (σ10.1 46 6), .ref 48]) (σ' := (s1 σ10 56 (σ9.1 46 7).toNatClampNeg w11)) hM 6 rfl ?_
            refine Pl.weak (Pl.iast hM rfl rfl (fun hi => ?_))
            replace h := h hi
            refine Pl.brN (c := (((σ10.1 46 7) + (1 : Int32)) - ((σ10.1 46 7) + (1 : Int32)) / (4 : Int32) * (4 : Int32)) = 0) (a := 262) (b := 234) (ls' := [(2, .int w2), (0, .ref 46), (1, .int x1)]) (st' := []) (σ' := (s1 (s1 (s1 σ10 56 (σ9.1 46 7).toNatClampNeg w11) 48 (σ10.1 46 6).toNatClampNeg ((σ10.1 48 (σ10.1 46 6).toNatClampNeg) &&& (((1 : Int32) <<< (x1 &&& 31)) ^^^ (-1 : Int32)))) 46 7 ((σ10.1 46 7) + (1 : Int32)))) hM 11 rfl (fun c => ?_) (fun c => ?_)
            · replace h := h.2 c
              exact Pl.live (l' := [(0, .ref 46)]) hM lv_63 ⟨show ndL _ from (by decide : List.Nodup ([2, 0, 1] : List Nat)), show ndL _ from (by decide : List.Nodup ([0] : List Nat)), by rw [lva_63_262]; exact List.forall_mem_cons.mpr ⟨rfl, fun _ h => absurd h List.not_mem_nil⟩⟩ h
            · replace h := h.1 c
              refine Pl.seg (pc' := 257) (ls' := [(2, .int w2), (0, .ref 46), (1, .int x1)]) (st' := [.int (((σ10.1 46 7) + (1 : Int32)) - (4 : Int32)), .ref 46, .ref 50, .int ((((σ10.1 46 7) + (1 : Int32)) / (4 : Int32)) - (1 : Int32)), .ref 57]) (σ' := (s1 (s1 (s1 σ10 56 (σ9.1 46 7).toNatClampNeg w11) 48 (σ10.1 46 6).toNatClampNeg ((σ10.1 48 (σ10.1 46 6).toNatClampNeg) &&& (((1 : Int32) <<< (x1 &&& 31)) ^^^ (-1 : Int32)))) 46 7 ((σ10.1 46 7) + (1 : Int32)))) hM 15 rfl ?_
              refine Pl.weak (Pl.cI hM rfl rfl (by decide) (Mj := M_45) rfl rfl (fun w13 σ12 hw => ?_))
              replace h := h w13 σ12 hw
              refine Pl.weak (Pl.iald hM rfl rfl (fun hi => ?_))
              replace h := h hi
              refine Pl.weak (Pl.iast hM rfl rfl (fun hi => ?_))
              replace h := h hi
              exact Pl.live (l' := [(0, .ref 46)]) hM lv_63 ⟨show ndL _ from (by decide : List.Nodup ([2, 0, 1] : List Nat)), show ndL _ from (by decide : List.Nodup ([0] : List Nat)), by rw [lva_63_262]; exact List.forall_mem_cons.mpr ⟨rfl, fun _ h => absurd h List.not_mem_nil⟩⟩ h
          · replace h := h.1 c
            refine Pl.seg (pc' := 123) (ls' := [(2, .int w2), (0, .ref 46), (1, .int x1)]) (st' := [.int (σ5.1 46 6), .ref 48, .int (σ5.1 46 7), .ref 54]) (σ' := (s1 σ5 53 (σ3.1 46 7).toNatClampNeg w6)) hM 4 rfl ?_
            refine Pl.weak (Pl.iald hM rfl rfl (fun hi => ?_))
            replace h := h hi
            refine Pl.seg (pc' := 132) (ls' := [(2, .int w2), (0, .ref 46), (1, .int x1)]) (st' := [.int w2, .ref 9, .int (σ5.1 48 (σ5.1 46 6).toNatClampNeg), .int (σ5.1 46 7), .ref 54]) (σ' := (s1 σ5 53 (σ3.1 46 7).toNatClampNeg w6)) hM 4 rfl ?_
            refine Pl.weak (Pl.iald hM rfl rfl (fun hi => ?_))
            replace h := h hi
            refine Pl.br (c := ((σ5.1 48 (σ5.1 46 6).toNatClampNeg) &&& (σ5.1 9 w2.toNatClampNeg)) = 0) (a := 141) (b := 137) (ls' := [(2, .int w2), (0, .ref 46), (1, .int x1)]) (st' := [.int (σ5.1 46 7), .ref 54]) (σ' := (s1 σ5 53 (σ3.1 46 7).toNatClampNeg w6)) hM 2 rfl (fun c => ?_) (fun c => ?_)
            · replace h := h.1 c
              refine Pl.seg (pc' := 142) (ls' := [(2, .int w2), (0, .ref 46), (1, .int x1)]) (st' := [.int (0 : Int32), .int (σ5.1 46 7), .ref 54]) (σ' := (s1 σ5 53 (σ3.1 46 7).toNatClampNeg w6)) hM 1 rfl ?_
              refine Pl.weak (Pl.iast hM rfl rfl (fun hi => ?_))
              replace h := h hi
              refine Pl.seg (pc' := 153) (ls' := [(2, .int w2), (0, .ref 46), (1, .int x1)]) (st' := [.int x1, .ref 46, .int (σ5.1 46 7), .ref 55]) (σ' := (s1 (s1 σ5 53 (σ3.1 46 7).toNatClampNeg w6) 54 (σ5.1 46 7).toNatClampNeg (0 : Int32))) hM 6 rfl ?_
              refine Pl.weak (Pl.cI hM rfl rfl (by decide) (Mj := M_39) rfl rfl (fun w15 σ14 hw => ?_))
              replace h := h w15 σ14 hw
              refine Pl.weak (Pl.iast hM rfl rfl (fun hi => ?_))
              replace h := h hi
              refine Pl.seg (pc' := 169) (ls' := [(2, .int w2), (0, .ref 46), (1, .int x1)]) (st' := [.int (σ14.1 46 6), .ref 48, .ref 12]) (σ' := (s1 σ14 55 (σ5.1 46 7).toNatClampNeg w15)) hM 6 rfl ?_
              refine Pl.weak (Pl.iald hM rfl rfl (fun hi => ?_))
              replace h := h hi
              refine Pl.weak (Pl.cV hM rfl rfl (by decide) (Mj := M_11) rfl rfl (fun σ16 hw => ?_))
              replace h := h σ16 hw
              refine Pl.seg (pc' := 193) (ls' := [(2, .int w2), (0, .ref 46), (1, .int x1)]) (st' := [.int (σ16.1 46 7), .ref 55, .ref 12, .int (σ16.1 46 7), .ref 56]) (σ' := σ16) hM 10 rfl ?_
              refine Pl.weak (Pl.iald hM rfl rfl (fun hi => ?_))
              replace h := h hi
              refine Pl.weak (Pl.cI hM rfl rfl (by decide) (Mj := M_13) rfl rfl (fun w18 σ17 hw => ?_))
              replace h := h w18 σ17 hw
              refine Pl.weak (Pl.iast hM rfl rfl (fun hi => ?_))
              replace h := h hi
              refine Pl.seg (pc' := 207) (ls' := [(2, .int w2), (0, .ref 46), (1, .int x1)]) (st' := [.int (σ17.1 46 6), .ref 48, .int (σ17.1 46 6), .ref 48]) (σ' := (s1 σ17 56 (σ16.1 46 7).toNatClampNeg w18)) hM 5 rfl ?_
              refine Pl.weak (Pl.iald hM rfl rfl (fun hi => ?_))
              replace h := h hi
              refine Pl.seg (pc' := 214) (ls' := [(2, .int w2), (0, .ref 46), (1, .int x1)]) (st' := [.int ((σ17.1 48 (σ17.1 46 6).toNatClampNeg) &&& (((1 : Int32) <<< (x1 &&& 31)) ^^^ (-1 : Int32))), .int (σ17.1 46 6), .ref 48]) (σ' := (s1 σ17 56 (σ16.1 46 7).toNatClampNeg w18)) hM 6 rfl ?_
              refine Pl.weak (Pl.iast hM rfl rfl (fun hi => ?_))
              replace h := h hi
              refine Pl.brN (c := (((σ17.1 46 7) + (1 : Int32)) - ((σ17.1 46 7) + (1 : Int32)) / (4 : Int32) * (4 : Int32)) = 0) (a := 262) (b := 234) (ls' := [(2, .int w2), (0, .ref 46), (1, .int x1)]) (st' := []) (σ' := (s1 (s1 (s1 σ17 56 (σ16.1 46 7).toNatClampNeg w18) 48 (σ17.1 46 6).toNatClampNeg ((σ17.1 48 (σ17.1 46 6).toNatClampNeg) &&& (((1 : Int32) <<< (x1 &&& 31)) ^^^ (-1 : Int32)))) 46 7 ((σ17.1 46 7) + (1 : Int32)))) hM 11 rfl (fun c => ?_) (fun c => ?_)
              · replace h := h.2 c
                exact Pl.live (l' := [(0, .ref 46)]) hM lv_63 ⟨show ndL _ from (by decide : List.Nodup ([2, 0, 1] : List Nat)), show ndL _ from (by decide : List.Nodup ([0] : List Nat)), by rw [lva_63_262]; exact List.forall_mem_cons.mpr ⟨rfl, fun _ h => absurd h List.not_mem_nil⟩⟩ h
              · replace h := h.1 c
                refine Pl.seg (pc' := 257) (ls' := [(2, .int w2), (0, .ref 46), (1, .int x1)]) (st' := [.int (((σ17.1 46 7) + (1 : Int32)) - (4 : Int32)), .ref 46, .ref 50, .int ((((σ17.1 46 7) + (1 : Int32)) / (4 : Int32)) - (1 : Int32)), .ref 57]) (σ' := (s1 (s1 (s1 σ17 56 (σ16.1 46 7).toNatClampNeg w18) 48 (σ17.1 46 6).toNatClampNeg ((σ17.1 48 (σ17.1 46 6).toNatClampNeg) &&& (((1 : Int32) <<< (x1 &&& 31)) ^^^ (-1 : Int32)))) 46 7 ((σ17.1 46 7) + (1 : Int32)))) hM 15 rfl ?_
                refine Pl.weak (Pl.cI hM rfl rfl (by decide) (Mj := M_45) rfl rfl (fun w20 σ19 hw => ?_))
                replace h := h w20 σ19 hw
                refine Pl.weak (Pl.iald hM rfl rfl (fun hi => ?_))
                replace h := h hi
                refine Pl.weak (Pl.iast hM rfl rfl (fun hi => ?_))
                replace h := h hi
                exact Pl.live (l' := [(0, .ref 46)]) hM lv_63 ⟨show ndL _ from (by decide : List.Nodup ([2, 0, 1] : List Nat)), show ndL _ from (by decide : List.Nodup ([0] : List Nat)), by rw [lva_63_262]; exact List.forall_mem_cons.mpr ⟨rfl, fun _ h => absurd h List.not_mem_nil⟩⟩ h
            · replace h := h.2 c
              refine Pl.seg (pc' := 142) (ls' := [(2, .int w2), (0, .ref 46), (1, .int x1)]) (st' := [.int (1 : Int32), .int (σ5.1 46 7), .ref 54]) (σ' := (s1 σ5 53 (σ3.1 46 7).toNatClampNeg w6)) hM 2 rfl ?_
              refine Pl.weak (Pl.iast hM rfl rfl (fun hi => ?_))
              replace h := h hi
              refine Pl.seg (pc' := 153) (ls' := [(2, .int w2), (0, .ref 46), (1, .int x1)]) (st' := [.int x1, .ref 46, .int (σ5.1 46 7), .ref 55]) (σ' := (s1 (s1 σ5 53 (σ3.1 46 7).toNatClampNeg w6) 54 (σ5.1 46 7).toNatClampNeg (1 : Int32))) hM 6 rfl ?_
              refine Pl.weak (Pl.cI hM rfl rfl (by decide) (Mj := M_39) rfl rfl (fun w22 σ21 hw => ?_))
              replace h := h w22 σ21 hw
              refine Pl.weak (Pl.iast hM rfl rfl (fun hi => ?_))
              replace h := h hi
              refine Pl.seg (pc' := 169) (ls' := [(2, .int w2), (0, .ref 46), (1, .int x1)]) (st' := [.int (σ21.1 46 6), .ref 48, .ref 12]) (σ' := (s1 σ21 55 (σ5.1 46 7).toNatClampNeg w22)) hM 6 rfl ?_
              refine Pl.weak (Pl.iald hM rfl rfl (fun hi => ?_))
              replace h := h hi
              refine Pl.weak (Pl.cV hM rfl rfl (by decide) (Mj := M_11) rfl rfl (fun σ23 hw => ?_))
              replace h := h σ23 hw
              refine Pl.seg (pc' := 193) (ls' := [(2, .int w2), (0, .ref 46), (1, .int x1)]) (st' := [.int (σ23.1 46 7), .ref 55, .ref 12, .int (σ23.1 46 7), .ref 56]) (σ' := σ23) hM 10 rfl ?_
              refine Pl.weak (Pl.iald hM rfl rfl (fun hi => ?_))
              replace h := h hi
              refine Pl.weak (Pl.cI hM rfl rfl (by decide) (Mj := M_13) rfl rfl (fun w25 σ24 hw => ?_))
              replace h := h w25 σ24 hw
              refine Pl.weak (Pl.iast hM rfl rfl (fun hi => ?_))
              replace h := h hi
              refine Pl.seg (pc' := 207) (ls' := [(2, .int w2), (0, .ref 46), (1, .int x1)]) (st' := [.int (σ24.1 46 6), .ref 48, .int (σ24.1 46 6), .ref 48]) (σ' := (s1 σ24 56 (σ23.1 46 7).toNatClampNeg w25)) hM 5 rfl ?_
              refine Pl.weak (Pl.iald hM rfl rfl (fun hi => ?_))
              replace h := h hi
              refine Pl.seg (pc' := 214) (ls' := [(2, .int w2), (0, .ref 46), (1, .int x1)]) (st' := [.int ((σ24.1 48 (σ24.1 46 6).toNatClampNeg) &&& (((1 : Int32) <<< (x1 &&& 31)) ^^^ (-1 : Int32))), .int (σ24.1 46 6), .ref 48]) (σ' := (s1 σ24 56 (σ23.1 46 7).toNatClampNeg w25)) hM 6 rfl ?_
              refine Pl.weak (Pl.iast hM rfl rfl (fun hi => ?_))
              replace h := h hi
              refine Pl.brN (c := (((σ24.1 46 7) + (1 : Int32)) - ((σ24.1 46 7) + (1 : Int32)) / (4 : Int32) * (4 : Int32)) = 0) (a := 262) (b := 234) (ls' := [(2, .int w2), (0, .ref 46), (1, .int x1)]) (st' := []) (σ' := (s1 (s1 (s1 σ24 56 (σ23.1 46 7).toNatClampNeg w25) 48 (σ24.1 46 6).toNatClampNeg ((σ24.1 48 (σ24.1 46 6).toNatClampNeg) &&& (((1 : Int32) <<< (x1 &&& 31)) ^^^ (-1 : Int32)))) 46 7 ((σ24.1 46 7) + (1 : Int32)))) hM 11 rfl (fun c => ?_) (fun c => ?_)
              · replace h := h.2 c
                exact Pl.live (l' := [(0, .ref 46)]) hM lv_63 ⟨show ndL _ from (by decide : List.Nodup ([2, 0, 1] : List Nat)), show ndL _ from (by decide : List.Nodup ([0] : List Nat)), by rw [lva_63_262]; exact List.forall_mem_cons.mpr ⟨rfl, fun _ h => absurd h List.not_mem_nil⟩⟩ h
              · replace h := h.1 c
                refine Pl.seg (pc' := 257) (ls' := [(2, .int w2), (0, .ref 46), (1, .int x1)]) (st' := [.int (((σ24.1 46 7) + (1 : Int32)) - (4 : Int32)), .ref 46, .ref 50, .int ((((σ24.1 46 7) + (1 : Int32)) / (4 : Int32)) - (1 : Int32)), .ref 57]) (σ' := (s1 (s1 (s1 σ24 56 (σ23.1 46 7).toNatClampNeg w25) 48 (σ24.1 46 6).toNatClampNeg ((σ24.1 48 (σ24.1 46 6).toNatClampNeg) &&& (((1 : Int32) <<< (x1 &&& 31)) ^^^ (-1 : Int32)))) 46 7 ((σ24.1 46 7) + (1 : Int32)))) hM 15 rfl ?_
                refine Pl.weak (Pl.cI hM rfl rfl (by decide) (Mj := M_45) rfl rfl (fun w27 σ26 hw => ?_))
                replace h := h w27 σ26 hw
                refine Pl.weak (Pl.iald hM rfl rfl (fun hi => ?_))
                replace h := h hi
                refine Pl.weak (Pl.iast hM rfl rfl (fun hi => ?_))
                replace h := h hi
                exact Pl.live (l' := [(0, .ref 46)]) hM lv_63 ⟨show ndL _ from (by decide : List.Nodup ([2, 0, 1] : List Nat)), show ndL _ from (by decide : List.Nodup ([0] : List Nat)), by rw [lva_63_262]; exact List.forall_mem_cons.mpr ⟨rfl, fun _ h => absurd h List.not_mem_nil⟩⟩ h
        · replace h := h.2 c
          exact Pl.live (l' := []) hM lv_63 ⟨show ndL _ from (by decide : List.Nodup ([0, 1] : List Nat)), show ndL _ from (by decide : List.Nodup ([] : List Nat)), by rw [lva_63_26]; exact fun _ h => absurd h List.not_mem_nil⟩ h
set_option maxRecDepth 100000 in
theorem p_63_b46_26 {n d : Nat} {Q : Option Value → Sg → Prop} (σ : Sg) (h : Q none σ) : Pl PRG (n + 1) d 63 26 [] [] σ Q := by
  have hM : PRG[63]? = some M_63 := rfl
  refine Pl.ret hM rfl rfl h
set_option maxRecDepth 100000 in
theorem p_63_b46_262 {n d : Nat} {Q : Option Value → Sg → Prop} (σ : Sg) (h : (∀ w2 σ1, RCx PRG n 62 [.ref 46] σ (some (.int w2)) σ1 → Q none (s1 (s1 σ1 46 6 w2) 46 17 ((σ1.1 46 17) + (1 : Int32))))) : Pl PRG (n + 1) d 63 262 [(0, .ref 46)] [] σ Q := by
  have hM : PRG[63]? = some M_63 := rfl
  refine Pl.sg1 (pc' := 264) (ls' := [(0, .ref 46)]) (st' := [.ref 46, .ref 46]) (σ' := σ) hM 1 rfl ?_
  refine Pl.weak (Pl.cI hM rfl rfl (by decide) (Mj := M_62) rfl rfl (fun w2 σ1 hw => ?_))
  replace h := h w2 σ1 hw
  refine Pl.seg (pc' := 280) (ls' := [(0, .ref 46)]) (st' := []) (σ' := (s1 (s1 σ1 46 6 w2) 46 17 ((σ1.1 46 17) + (1 : Int32)))) hM 7 rfl ?_
  refine Pl.weak (Pl.ret hM rfl rfl h)
set_option maxRecDepth 100000 in
theorem p_34_b46_0 {n d : Nat} {Q : Option Value → Sg → Prop} (σ : Sg) (h : (((σ.1 46 7) ≤ ((σ.1 46 7) - ((σ.1 46 7) - (σ.1 46 7) / (4 : Int32) * (4 : Int32))) → Q (some (.int (-1 : Int32))) σ) ∧ (¬ (σ.1 46 7) ≤ ((σ.1 46 7) - ((σ.1 46 7) - (σ.1 46 7) / (4 : Int32) * (4 : Int32))) → (inR ((σ.1 46 7) - ((σ.1 46 7) - (σ.1 46 7) / (4 : Int32) * (4 : Int32))) 16 = true → (inR (σ.1 49 ((σ.1 46 7) - ((σ.1 46 7) - (σ.1 46 7) / (4 : Int32) * (4 : Int32))).toNatClampNeg) 16 = true → Q (some (.int (σ.1 10 (σ.1 49 ((σ.1 46 7) - ((σ.1 46 7) - (σ.1 46 7) / (4 : Int32) * (4 : Int32))).toNatClampNeg).toNatClampNeg))) σ))))) : Pl PRG (n + 1) d 34 0 [(0, .ref 46)] [] σ Q := by
  have hM : PRG[34]? = some M_34 := rfl
  refine Pl.br1 (c := (σ.1 46 7) ≤ ((σ.1 46 7) - ((σ.1 46 7) - (σ.1 46 7) / (4 : Int32) * (4 : Int32)))) (a := 37) (b := 20) (ls' := [(1, .int ((σ.1 46 7) - ((σ.1 46 7) - (σ.1 46 7) / (4 : Int32) * (4 : Int32)))), (0, .ref 46)]) (st' := []) (σ' := σ) hM 11 rfl (fun c => ?_) (fun c => ?_)
  · replace h := h.1 c
    refine Pl.seg (pc' := 38) (ls' := [(1, .int ((σ.1 46 7) - ((σ.1 46 7) - (σ.1 46 7) / (4 : Int32) * (4 : Int32)))), (0, .ref 46)]) (st' := [.int (-1 : Int32)]) (σ' := σ) hM 1 rfl ?_
    refine Pl.weak (Pl.ret hM rfl rfl h)
  · replace h := h.2 c
    refine Pl.seg (pc' := 32) (ls' := [(1, .int ((σ.1 46 7) - ((σ.1 46 7) - (σ.1 46 7) / (4 : Int32) * (4 : Int32)))), (0, .ref 46)]) (st' := [.int ((σ.1 46 7) - ((σ.1 46 7) - (σ.1 46 7) / (4 : Int32) * (4 : Int32))), .ref 49, .ref 10]) (σ' := σ) hM 6 rfl ?_
    refine Pl.weak (Pl.iald hM rfl rfl (fun hi => ?_))
    replace h := h hi
    refine Pl.weak (Pl.iald hM rfl rfl (fun hi => ?_))
    replace h := h hi
    refine Pl.seg (pc' := 38) (ls' := [(1, .int ((σ.1 46 7) - ((σ.1 46 7) - (σ.1 46 7) / (4 : Int32) * (4 : Int32)))), (0, .ref 46)]) (st' := [.int (σ.1 10 (σ.1 49 ((σ.1 46 7) - ((σ.1 46 7) - (σ.1 46 7) / (4 : Int32) * (4 : Int32))).toNatClampNeg).toNatClampNeg)]) (σ' := σ) hM 1 rfl ?_
    refine Pl.weak (Pl.ret hM rfl rfl h)
set_option maxRecDepth 100000 in
theorem p_37_b46_0 {n d : Nat} {Q : Option Value → Sg → Prop} (σ : Sg) (x1 x2 : Int32) (h : ((0 ≤ x2 → (inR x1 16 = true → (((σ.1 10 x1.toNatClampNeg) = x2 → Q (some (.int (1 : Int32))) σ) ∧ (¬ (σ.1 10 x1.toNatClampNeg) = x2 → Q (some (.int (2 : Int32))) σ)))) ∧ (¬ 0 ≤ x2 → Q (some (.int (0 : Int32))) σ))) : Pl PRG (n + 1) d 37 0 [(0, .ref 46), (1, .int x1), (2, .int x2)] [] σ Q := by
  have hM : PRG[37]? = some M_37 := rfl
  refine Pl.br1 (c := 0 ≤ x2) (a := 6) (b := 4) (ls' := [(0, .ref 46), (1, .int x1), (2, .int x2)]) (st' := []) (σ' := σ) hM 1 rfl (fun c => ?_) (fun c => ?_)
  · replace h := h.1 c
    refine Pl.seg (pc' := 14) (ls' := [(0, .ref 46), (1, .int x1), (2, .int x2)]) (st' := [.int x1, .ref 10]) (σ' := σ) hM 4 rfl ?_
    refine Pl.weak (Pl.iald hM rfl rfl (fun hi => ?_))
    replace h := h hi
    refine Pl.brN (c := (σ.1 10 x1.toNatClampNeg) = x2) (a := 23) (b := 19) (ls' := [(0, .ref 46), (1, .int x1), (2, .int x2)]) (st' := []) (σ' := σ) hM 2 rfl (fun c => ?_) (fun c => ?_)
    · replace h := h.2 c
      refine Pl.seg (pc' := 24) (ls' := [(0, .ref 46), (1, .int x1), (2, .int x2)]) (st' := [.int (2 : Int32)]) (σ' := σ) hM 1 rfl ?_
      refine Pl.weak (Pl.ret hM rfl rfl h)
    · replace h := h.1 c
      refine Pl.seg (pc' := 24) (ls' := [(0, .ref 46), (1, .int x1), (2, .int x2)]) (st' := [.int (1 : Int32)]) (σ' := σ) hM 2 rfl ?_
      refine Pl.weak (Pl.ret hM rfl rfl h)
  · replace h := h.2 c
    refine Pl.seg (pc' := 5) (ls' := [(0, .ref 46), (1, .int x1), (2, .int x2)]) (st' := [.int (0 : Int32)]) (σ' := σ) hM 1 rfl ?_
    refine Pl.weak (Pl.ret hM rfl rfl h)
set_option maxRecDepth 100000 in
theorem p_36_b46_0 {n d : Nat} {Q : Option Value → Sg → Prop} (σ : Sg) (x1 : Int32) (h : Pl PRG n d 36 7 [(0, .ref 46), (1, .int x1), (2, .int ((σ.1 46 7) - (1 : Int32)))] [] σ Q) : Pl PRG (n + 1) d 36 0 [(0, .ref 46), (1, .int x1)] [] σ Q := by
  have hM : PRG[36]? = some M_36 := rfl
  refine Pl.sg1 (pc' := 7) (ls' := [(2, .int ((σ.1 46 7) - (1 : Int32))), (0, .ref 46), (1, .int x1)]) (st' := []) (σ' := σ) hM 4 rfl ?_
  exact Pl.live (l' := [(0, .ref 46), (1, .int x1), (2, .int ((σ.1 46 7) - (1 : Int32)))]) hM lv_36 ⟨show ndL _ from (by decide : List.Nodup ([2, 0, 1] : List Nat)), show ndL _ from (by decide : List.Nodup ([0, 1, 2] : List Nat)), by rw [lva_36_7]; exact List.forall_mem_cons.mpr ⟨rfl, List.forall_mem_cons.mpr ⟨rfl, List.forall_mem_cons.mpr ⟨rfl, fun _ h => absurd h List.not_mem_nil⟩⟩⟩⟩ h
set_option maxRecDepth 100000 in
theorem p_36_b46_7 {n d : Nat} {Q : Option Value → Sg → Prop} (σ : Sg) (x1 x2 : Int32) (h : ((x2 < 0 → Q (some (.int (-1 : Int32))) σ) ∧ (¬ x2 < 0 → (inR x2 16 = true → (((σ.1 50 x2.toNatClampNeg) = (σ.1 46 6) → (inR x2 16 = true → (inR (σ.1 49 x2.toNatClampNeg) 16 = true → (inR x1 16 = true → (((σ.1 10 (σ.1 49 x2.toNatClampNeg).toNatClampNeg) = (σ.1 10 x1.toNatClampNeg) → (inR x2 16 = true → (∀ w2 σ1, RCx PRG n 9 [.ref 3, .int (σ.1 49 x2.toNatClampNeg)] σ (some (.int w2)) σ1 → Q (some (.int w2)) σ1))) ∧ (¬ (σ.1 10 (σ.1 49 x2.toNatClampNeg).toNatClampNeg) = (σ.1 10 x1.toNatClampNeg) → Pl PRG n d 36 64 [(0, .ref 46), (1, .int x1), (2, .int x2)] [] σ Q)))))) ∧ (¬ (σ.1 50 x2.toNatClampNeg) = (σ.1 46 6) → Pl PRG n d 36 64 [(0, .ref 46), (1, .int x1), (2, .int x2)] [] σ Q)))))) : Pl PRG (n + 1) d 36 7 [(0, .ref 46), (1, .int x1), (2, .int x2)] [] σ Q := by
  have hM : PRG[36]? = some M_36 := rfl
  refine Pl.br1 (c := x2 < 0) (a := 70) (b := 11) (ls' := [(0, .ref 46), (1, .int x1), (2, .int x2)]) (st' := []) (σ' := σ) hM 1 rfl (fun c => ?_) (fun c => ?_)
  · replace h := h.1 c
    refine Pl.seg (pc' := 71) (ls' := [(0, .ref 46), (1, .int x1), (2, .int x2)]) (st' := [.int (-1 : Int32)]) (σ' := σ) hM 1 rfl ?_
    refine Pl.weak (Pl.ret hM rfl rfl h)
  · replace h := h.2 c
    refine Pl.seg (pc' := 16) (ls' := [(0, .ref 46), (1, .int x1), (2, .int x2)]) (st' := [.int x2, .ref 50]) (σ' := σ) hM 3 rfl ?_
    refine Pl.weak (Pl.iald hM rfl rfl (fun hi => ?_))
    replace h := h hi
    refine Pl.brN (c := (σ.1 50 x2.toNatClampNeg) = (σ.1 46 6)) (a := 64) (b := 24) (ls' := [(0, .ref 46), (1, .int x1), (2, .int x2)]) (st' := []) (σ' := σ) hM 3 rfl (fun c => ?_) (fun c => ?_)
    · replace h := h.2 c
      exact Pl.live (l' := [(0, .ref 46), (1, .int x1), (2, .int x2)]) hM lv_36 ⟨show ndL _ from (by decide : List.Nodup ([0, 1, 2] : List Nat)), show ndL _ from (by decide : List.Nodup ([0, 1, 2] : List Nat)), by rw [lva_36_64]; exact List.forall_mem_cons.mpr ⟨rfl, List.forall_mem_cons.mpr ⟨rfl, List.forall_mem_cons.mpr ⟨rfl, fun _ h => absurd h List.not_mem_nil⟩⟩⟩⟩ h
    · replace h := h.1 c
      refine Pl.seg (pc' := 36) (ls' := [(0, .ref 46), (1, .int x1), (2, .int x2)]) (st' := [.int x2, .ref 49, .ref 10]) (σ' := σ) hM 6 rfl ?_
      refine Pl.weak (Pl.iald hM rfl rfl (fun hi => ?_))
      replace h := h hi
      refine Pl.weak (Pl.iald hM rfl rfl (fun hi => ?_))
      replace h := h hi
      refine Pl.seg (pc' := 46) (ls' := [(0, .ref 46), (1, .int x1), (2, .int x2)]) (st' := [.int x1, .ref 10, .int (σ.1 10 (σ.1 49 x2.toNatClampNeg).toNatClampNeg)]) (σ' := σ) hM 4 rfl ?_
      refine Pl.weak (Pl.iald hM rfl rfl (fun hi => ?_))
      replace h := h hi
      refine Pl.brN (c := (σ.1 10 (σ.1 49 x2.toNatClampNeg).toNatClampNeg) = (σ.1 10 x1.toNatClampNeg)) (a := 64) (b := 50) (ls' := [(0, .ref 46), (1, .int x1), (2, .int x2)]) (st' := []) (σ' := σ) hM 1 rfl (fun c => ?_) (fun c => ?_)
      · replace h := h.2 c
        exact Pl.live (l' := [(0, .ref 46), (1, .int x1), (2, .int x2)]) hM lv_36 ⟨show ndL _ from (by decide : List.Nodup ([0, 1, 2] : List Nat)), show ndL _ from (by decide : List.Nodup ([0, 1, 2] : List Nat)), by rw [lva_36_64]; exact List.forall_mem_cons.mpr ⟨rfl, List.forall_mem_cons.mpr ⟨rfl, List.forall_mem_cons.mpr ⟨rfl, fun _ h => absurd h List.not_mem_nil⟩⟩⟩⟩ h
      · replace h := h.1 c
        refine Pl.seg (pc' := 59) (ls' := [(0, .ref 46), (1, .int x1), (2, .int x2)]) (st' := [.int x2, .ref 49, .ref 3]) (σ' := σ) hM 5 rfl ?_
        refine Pl.weak (Pl.iald hM rfl rfl (fun hi => ?_))
        replace h := h hi
        refine Pl.weak (Pl.cI hM rfl rfl (by decide) (Mj := M_9) rfl rfl (fun w2 σ1 hw => ?_))
        replace h := h w2 σ1 hw
        refine Pl.weak (Pl.ret hM rfl rfl h)
set_option maxRecDepth 100000 in
theorem p_36_b46_64 {n d : Nat} {Q : Option Value → Sg → Prop} (σ : Sg) (x1 x2 : Int32) (h : Pl PRG n d 36 7 [(0, .ref 46), (1, .int x1), (2, .int (x2 + (-1 : Int32)))] [] σ Q) : Pl PRG (n + 1) d 36 64 [(0, .ref 46), (1, .int x1), (2, .int x2)] [] σ Q := by
  have hM : PRG[36]? = some M_36 := rfl
  refine Pl.sg1 (pc' := 7) (ls' := [(2, .int (x2 + (-1 : Int32))), (0, .ref 46), (1, .int x1)]) (st' := []) (σ' := σ) hM 1 rfl ?_
  exact Pl.live (l' := [(0, .ref 46), (1, .int x1), (2, .int (x2 + (-1 : Int32)))]) hM lv_36 ⟨show ndL _ from (by decide : List.Nodup ([2, 0, 1] : List Nat)), show ndL _ from (by decide : List.Nodup ([0, 1, 2] : List Nat)), by rw [lva_36_7]; exact List.forall_mem_cons.mpr ⟨rfl, List.forall_mem_cons.mpr ⟨rfl, List.forall_mem_cons.mpr ⟨rfl, fun _ h => absurd h List.not_mem_nil⟩⟩⟩⟩ h
set_option maxRecDepth 100000 in
theorem p_39_b46_0 {n d : Nat} {Q : Option Value → Sg → Prop} (σ : Sg) (x1 : Int32) (h : (∀ w2 σ1, RCx PRG n 34 [.ref 46] σ (some (.int w2)) σ1 → (∀ w4 σ3, RCx PRG n 36 [.ref 46, .int x1] σ1 (some (.int w4)) σ3 → (∀ σ5, RCx PRG n 10 [.ref 12, .int x1, .int w2, .int ((σ1.1 46 7) / (4 : Int32)), .int w4] σ3 none σ5 → (∀ w7 σ6, RCx PRG n 37 [.ref 46, .int x1, .int w2] σ5 (some (.int w7)) σ6 → (∀ w9 σ8, RCx PRG n 38 [.ref 12, .int w7, .int ((σ6.1 46 6) &&& (1 : Int32))] σ6 (some (.int w9)) σ8 → Q (some (.int w9)) σ8)))))) : Pl PRG (n + 1) d 39 0 [(0, .ref 46), (1, .int x1)] [] σ Q := by
  have hM : PRG[39]? = some M_39 := rfl
  refine Pl.sg1 (pc' := 1) (ls' := [(0, .ref 46), (1, .int x1)]) (st' := [.ref 46]) (σ' := σ) hM 0 rfl ?_
  refine Pl.weak (Pl.cI hM rfl rfl (by decide) (Mj := M_34) rfl rfl (fun w2 σ1 hw => ?_))
  replace h := h w2 σ1 hw
  refine Pl.seg (pc' := 19) (ls' := [(2, .int w2), (0, .ref 46), (1, .int x1)]) (st' := [.int x1, .ref 46, .int ((σ1.1 46 7) / (4 : Int32)), .int w2, .int x1, .ref 12]) (σ' := σ1) hM 11 rfl ?_
  refine Pl.weak (Pl.cI hM rfl rfl (by decide) (Mj := M_36) rfl rfl (fun w4 σ3 hw => ?_))
  replace h := h w4 σ3 hw
  refine Pl.weak (Pl.cV hM rfl rfl (by decide) (Mj := M_10) rfl rfl (fun σ5 hw => ?_))
  replace h := h σ5 hw
  refine Pl.seg (pc' := 32) (ls' := [(2, .int w2), (0, .ref 46), (1, .int x1)]) (st' := [.int w2, .int x1, .ref 46, .ref 12]) (σ' := σ5) hM 5 rfl ?_
  refine Pl.weak (Pl.cI hM rfl rfl (by decide) (Mj := M_37) rfl rfl (fun w7 σ6 hw => ?_))
  replace h := h w7 σ6 hw
  refine Pl.seg (pc' := 41) (ls' := [(2, .int w2), (0, .ref 46), (1, .int x1)]) (st' := [.int ((σ6.1 46 6) &&& (1 : Int32)), .int w7, .ref 12]) (σ' := σ6) hM 4 rfl ?_
  refine Pl.weak (Pl.cI hM rfl rfl (by decide) (Mj := M_38) rfl rfl (fun w9 σ8 hw => ?_))
  replace h := h w9 σ8 hw
  refine Pl.weak (Pl.ret hM rfl rfl h)
set_option maxRecDepth 100000 in
theorem p_45_b46_0 {n d : Nat} {Q : Option Value → Sg → Prop} (σ : Sg) (x1 : Int32) (h : Pl PRG n d 45 6 [(0, .ref 46), (1, .int x1), (2, .int x1), (3, .int (x1 + (1 : Int32)))] [] σ Q) : Pl PRG (n + 1) d 45 0 [(0, .ref 46), (1, .int x1)] [] σ Q := by
  have hM : PRG[45]? = some M_45 := rfl
  refine Pl.sg1 (pc' := 6) (ls' := [(3, .int (x1 + (1 : Int32))), (2, .int x1), (0, .ref 46), (1, .int x1)]) (st' := []) (σ' := σ) hM 5 rfl ?_
  exact Pl.live (l' := [(0, .ref 46), (1, .int x1), (2, .int x1), (3, .int (x1 + (1 : Int32)))]) hM lv_45 ⟨show ndL _ from (by decide : List.Nodup ([3, 2, 0, 1] : List Nat)), show ndL _ from (by decide : List.Nodup ([0, 1, 2, 3] : List Nat)), by rw [lva_45_6]; exact List.forall_mem_cons.mpr ⟨rfl, List.forall_mem_cons.mpr ⟨rfl, List.forall_mem_cons.mpr ⟨rfl, List.forall_mem_cons.mpr ⟨rfl, fun _ h => absurd h List.not_mem_nil⟩⟩⟩⟩⟩ h
set_option maxRecDepth 100000 in
theorem p_45_b46_6 {n d : Nat} {Q : Option Value → Sg → Prop} (σ : Sg) (x1 x2 x3 : Int32) (h : (((σ.1 46 7) ≤ x3 → Pl PRG n d 45 106 [(2, .int x2)] [] σ Q) ∧ (¬ (σ.1 46 7) ≤ x3 → (((x1 + (4 : Int32)) ≤ x3 → Pl PRG n d 45 106 [(2, .int x2)] [] σ Q) ∧ (¬ (x1 + (4 : Int32)) ≤ x3 → (inR x3 16 = true → (inR (σ.1 49 x3.toNatClampNeg) 16 = true → (inR x2 16 = true → (inR (σ.1 49 x2.toNatClampNeg) 16 = true → (((σ.1 10 (σ.1 49 x3.toNatClampNeg).toNatClampNeg) = (σ.1 10 (σ.1 49 x2.toNatClampNeg).toNatClampNeg) → (inR x3 16 = true → (inR x2 16 = true → (((σ.1 49 x3.toNatClampNeg) ≤ (σ.1 49 x2.toNatClampNeg) → Pl PRG n d 45 100 [(0, .ref 46), (1, .int x1), (2, .int x2), (3, .int x3)] [] σ Q) ∧ (¬ (σ.1 49 x3.toNatClampNeg) ≤ (σ.1 49 x2.toNatClampNeg) → Pl PRG n d 45 98 [(0, .ref 46), (1, .int x1), (3, .int x3)] [] σ Q))))) ∧ (¬ (σ.1 10 (σ.1 49 x3.toNatClampNeg).toNatClampNeg) = (σ.1 10 (σ.1 49 x2.toNatClampNeg).toNatClampNeg) → (((σ.1 10 (σ.1 49 x3.toNatClampNeg).toNatClampNeg) = (σ.1 3 2) → Pl PRG n d 45 98 [(0, .ref 46), (1, .int x1), (3, .int x3)] [] σ Q) ∧ (¬ (σ.1 10 (σ.1 49 x3.toNatClampNeg).toNatClampNeg) = (σ.1 3 2) → Pl PRG n d 45 100 [(0, .ref 46), (1, .int x1), (2, .int x2), (3, .int x3)] [] σ Q))))))))))))) : Pl PRG (n + 1) d 45 6 [(0, .ref 46), (1, .int x1), (2, .int x2), (3, .int x3)] [] σ Q := by
  have hM : PRG[45]? = some M_45 := rfl
  refine Pl.br1 (c := (σ.1 46 7) ≤ x3) (a := 106) (b := 14) (ls' := [(0, .ref 46), (1, .int x1), (2, .int x2), (3, .int x3)]) (st' := []) (σ' := σ) hM 3 rfl (fun c => ?_) (fun c => ?_)
  · replace h := h.1 c
    exact Pl.live (l' := [(2, .int x2)]) hM lv_45 ⟨show ndL _ from (by decide : List.Nodup ([0, 1, 2, 3] : List Nat)), show ndL _ from (by decide : List.Nodup ([2] : List Nat)), by rw [lva_45_106]; exact List.forall_mem_cons.mpr ⟨rfl, fun _ h => absurd h List.not_mem_nil⟩⟩ h
  · replace h := h.2 c
    refine Pl.br (c := (x1 + (4 : Int32)) ≤ x3) (a := 106) (b := 21) (ls' := [(0, .ref 46), (1, .int x1), (2, .int x2), (3, .int x3)]) (st' := []) (σ' := σ) hM 5 rfl (fun c => ?_) (fun c => ?_)
    · replace h := h.1 c
      exact Pl.live (l' := [(2, .int x2)]) hM lv_45 ⟨show ndL _ from (by decide : List.Nodup ([0, 1, 2, 3] : List Nat)), show ndL _ from (by decide : List.Nodup ([2] : List Nat)), by rw [lva_45_106]; exact List.forall_mem_cons.mpr ⟨rfl, fun _ h => absurd h List.not_mem_nil⟩⟩ h
    · replace h := h.2 c
      refine Pl.seg (pc' := 33) (ls' := [(0, .ref 46), (1, .int x1), (2, .int x2), (3, .int x3)]) (st' := [.int x3, .ref 49, .ref 10]) (σ' := σ) hM 6 rfl ?_
      refine Pl.weak (Pl.iald hM rfl rfl (fun hi => ?_))
      replace h := h hi
      refine Pl.weak (Pl.iald hM rfl rfl (fun hi => ?_))
      replace h := h hi
      refine Pl.seg (pc' := 51) (ls' := [(4, .int (σ.1 10 (σ.1 49 x3.toNatClampNeg).toNatClampNeg)), (0, .ref 46), (1, .int x1), (2, .int x2), (3, .int x3)]) (st' := [.int x2, .ref 49, .ref 10, .int (σ.1 10 (σ.1 49 x3.toNatClampNeg).toNatClampNeg)]) (σ' := σ) hM 8 rfl ?_
      refine Pl.weak (Pl.iald hM rfl rfl (fun hi => ?_))
      replace h := h hi
      refine Pl.weak (Pl.iald hM rfl rfl (fun hi => ?_))
      replace h := h hi
      refine Pl.brN (c := (σ.1 10 (σ.1 49 x3.toNatClampNeg).toNatClampNeg) = (σ.1 10 (σ.1 49 x2.toNatClampNeg).toNatClampNeg)) (a := 60) (b := 56) (ls' := [(4, .int (σ.1 10 (σ.1 49 x3.toNatClampNeg).toNatClampNeg)), (0, .ref 46), (1, .int x1), (2, .int x2), (3, .int x3)]) (st' := []) (σ' := σ) hM 1 rfl (fun c => ?_) (fun c => ?_)
      · replace h := h.2 c
        refine Pl.brN (c := (σ.1 10 (σ.1 49 x3.toNatClampNeg).toNatClampNeg) = (σ.1 3 2)) (a := 100) (b := 98) (ls' := [(5, .int (0 : Int32)), (4, .int (σ.1 10 (σ.1 49 x3.toNatClampNeg).toNatClampNeg)), (0, .ref 46), (1, .int x1), (2, .int x2), (3, .int x3)]) (st' := []) (σ' := σ) hM 9 rfl (fun c => ?_) (fun c => ?_)
        · replace h := h.2 c
          exact Pl.live (l' := [(0, .ref 46), (1, .int x1), (2, .int x2), (3, .int x3)]) hM lv_45 ⟨show ndL _ from (by decide : List.Nodup ([5, 4, 0, 1, 2, 3] : List Nat)), show ndL _ from (by decide : List.Nodup ([0, 1, 2, 3] : List Nat)), by rw [lva_45_100]; exact List.forall_mem_cons.mpr ⟨rfl, List.forall_mem_cons.mpr ⟨rfl, List.forall_mem_cons.mpr ⟨rfl, List.forall_mem_cons.mpr ⟨rfl, fun _ h => absurd h List.not_mem_nil⟩⟩⟩⟩⟩ h
        · replace h := h.1 c
          exact Pl.live (l' := [(0, .ref 46), (1, .int x1), (3, .int x3)]) hM lv_45 ⟨show ndL _ from (by decide : List.Nodup ([5, 4, 0, 1, 2, 3] : List Nat)), show ndL _ from (by decide : List.Nodup ([0, 1, 3] : List Nat)), by rw [lva_45_98]; exact List.forall_mem_cons.mpr ⟨rfl, List.forall_mem_cons.mpr ⟨rfl, List.forall_mem_cons.mpr ⟨rfl, fun _ h => absurd h List.not_mem_nil⟩⟩⟩⟩ h
      · replace h := h.1 c
        refine Pl.seg (pc' := 73) (ls' := [(5, .int (1 : Int32)), (4, .int (σ.1 10 (σ.1 49 x3.toNatClampNeg).toNatClampNeg)), (0, .ref 46), (1, .int x1), (2, .int x2), (3, .int x3)]) (st' := [.int x3, .ref 49]) (σ' := σ) hM 8 rfl ?_
        refine Pl.weak (Pl.iald hM rfl rfl (fun hi => ?_))
        replace h := h hi
        refine Pl.seg (pc' := 79) (ls' := [(5, .int (1 : Int32)), (4, .int (σ.1 10 (σ.1 49 x3.toNatClampNeg).toNatClampNeg)), (0, .ref 46), (1, .int x1), (2, .int x2), (3, .int x3)]) (st' := [.int x2, .ref 49, .int (σ.1 49 x3.toNatClampNeg)]) (σ' := σ) hM 3 rfl ?_
        refine Pl.weak (Pl.iald hM rfl rfl (fun hi => ?_))
        replace h := h hi
        refine Pl.br (c := (σ.1 49 x3.toNatClampNeg) ≤ (σ.1 49 x2.toNatClampNeg)) (a := 100) (b := 83) (ls' := [(5, .int (1 : Int32)), (4, .int (σ.1 10 (σ.1 49 x3.toNatClampNeg).toNatClampNeg)), (0, .ref 46), (1, .int x1), (2, .int x2), (3, .int x3)]) (st' := []) (σ' := σ) hM 1 rfl (fun c => ?_) (fun c => ?_)
        · replace h := h.1 c
          exact Pl.live (l' := [(0, .ref 46), (1, .int x1), (2, .int x2), (3, .int x3)]) hM lv_45 ⟨show ndL _ from (by decide : List.Nodup ([5, 4, 0, 1, 2, 3] : List Nat)), show ndL _ from (by decide : List.Nodup ([0, 1, 2, 3] : List Nat)), by rw [lva_45_100]; exact List.forall_mem_cons.mpr ⟨rfl, List.forall_mem_cons.mpr ⟨rfl, List.forall_mem_cons.mpr ⟨rfl, List.forall_mem_cons.mpr ⟨rfl, fun _ h => absurd h List.not_mem_nil⟩⟩⟩⟩⟩ h
        · replace h := h.2 c
          refine Pl.seg (pc' := 98) (ls' := [(5, .int (1 : Int32)), (4, .int (σ.1 10 (σ.1 49 x3.toNatClampNeg).toNatClampNeg)), (0, .ref 46), (1, .int x1), (2, .int x2), (3, .int x3)]) (st' := []) (σ' := σ) hM 1 rfl ?_
          exact Pl.live (l' := [(0, .ref 46), (1, .int x1), (3, .int x3)]) hM lv_45 ⟨show ndL _ from (by decide : List.Nodup ([5, 4, 0, 1, 2, 3] : List Nat)), show ndL _ from (by decide : List.Nodup ([0, 1, 3] : List Nat)), by rw [lva_45_98]; exact List.forall_mem_cons.mpr ⟨rfl, List.forall_mem_cons.mpr ⟨rfl, List.forall_mem_cons.mpr ⟨rfl, fun _ h => absurd h List.not_mem_nil⟩⟩⟩⟩ h
set_option maxRecDepth 100000 in
theorem p_45_b46_106 {n d : Nat} {Q : Option Value → Sg → Prop} (σ : Sg) (x2 : Int32) (h : Q (some (.int x2)) σ) : Pl PRG (n + 1) d 45 106 [(2, .int x2)] [] σ Q := by
  have hM : PRG[45]? = some M_45 := rfl
  refine Pl.sg1 (pc' := 107) (ls' := [(2, .int x2)]) (st' := [.int x2]) (σ' := σ) hM 0 rfl ?_
  refine Pl.weak (Pl.ret hM rfl rfl h)
set_option maxRecDepth 100000 in
theorem p_45_b46_100 {n d : Nat} {Q : Option Value → Sg → Prop} (σ : Sg) (x1 x2 x3 : Int32) (h : Pl PRG n d 45 6 [(0, .ref 46), (1, .int x1), (2, .int x2), (3, .int (x3 + (1 : Int32)))] [] σ Q) : Pl PRG (n + 1) d 45 100 [(0, .ref 46), (1, .int x1), (2, .int x2), (3, .int x3)] [] σ Q := by
  have hM : PRG[45]? = some M_45 := rfl
  refine Pl.sg1 (pc' := 6) (ls' := [(3, .int (x3 + (1 : Int32))), (0, .ref 46), (1, .int x1), (2, .int x2)]) (st' := []) (σ' := σ) hM 1 rfl ?_
  exact Pl.live (l' := [(0, .ref 46), (1, .int x1), (2, .int x2), (3, .int (x3 + (1 : Int32)))]) hM lv_45 ⟨show ndL _ from (by decide : List.Nodup ([3, 0, 1, 2] : List Nat)), show ndL _ from (by decide : List.Nodup ([0, 1, 2, 3] : List Nat)), by rw [lva_45_6]; exact List.forall_mem_cons.mpr ⟨rfl, List.forall_mem_cons.mpr ⟨rfl, List.forall_mem_cons.mpr ⟨rfl, List.forall_mem_cons.mpr ⟨rfl, fun _ h => absurd h List.not_mem_nil⟩⟩⟩⟩⟩ h
set_option maxRecDepth 100000 in
theorem p_45_b46_98 {n d : Nat} {Q : Option Value → Sg → Prop} (σ : Sg) (x1 x3 : Int32) (h : Pl PRG n d 45 100 [(0, .ref 46), (1, .int x1), (2, .int x3), (3, .int x3)] [] σ Q) : Pl PRG (n + 1) d 45 98 [(0, .ref 46), (1, .int x1), (3, .int x3)] [] σ Q := by
  have hM : PRG[45]? = some M_45 := rfl
  refine Pl.sg1 (pc' := 100) (ls' := [(2, .int x3), (0, .ref 46), (1, .int x1), (3, .int x3)]) (st' := []) (σ' := σ) hM 1 rfl ?_
  exact Pl.live (l' := [(0, .ref 46), (1, .int x1), (2, .int x3), (3, .int x3)]) hM lv_45 ⟨show ndL _ from (by decide : List.Nodup ([2, 0, 1, 3] : List Nat)), show ndL _ from (by decide : List.Nodup ([0, 1, 2, 3] : List Nat)), by rw [lva_45_100]; exact List.forall_mem_cons.mpr ⟨rfl, List.forall_mem_cons.mpr ⟨rfl, List.forall_mem_cons.mpr ⟨rfl, List.forall_mem_cons.mpr ⟨rfl, fun _ h => absurd h List.not_mem_nil⟩⟩⟩⟩⟩ h
set_option maxRecDepth 100000 in
theorem p_62_b46_0 {n d : Nat} {Q : Option Value → Sg → Prop} (σ : Sg) (h : (((σ.1 46 7) < (σ.1 3 10) → ((((σ.1 46 7) - (σ.1 46 7) / (4 : Int32) * (4 : Int32)) = 0 → (inR (((σ.1 46 7) / (4 : Int32)) - (1 : Int32)) 4 = true → Q (some (.int (σ.1 57 (((σ.1 46 7) / (4 : Int32)) - (1 : Int32)).toNatClampNeg))) σ)) ∧ (¬ ((σ.1 46 7) - (σ.1 46 7) / (4 : Int32) * (4 : Int32)) = 0 → Q (some (.int (((σ.1 46 6) + (1 : Int32)) &&& (3 : Int32)))) σ))) ∧ (¬ (σ.1 46 7) < (σ.1 3 10) → Q (some (.int (-2 : Int32))) σ))) : Pl PRG (n + 1) d 62 0 [(0, .ref 46)] [] σ Q := by
  have hM : PRG[62]? = some M_62 := rfl
  refine Pl.br1 (c := (σ.1 46 7) < (σ.1 3 10)) (a := 17) (b := 14) (ls' := [(0, .ref 46)]) (st' := []) (σ' := σ) hM 5 rfl (fun c => ?_) (fun c => ?_)
  · replace h := h.1 c
    refine Pl.brN (c := ((σ.1 46 7) - (σ.1 46 7) / (4 : Int32) * (4 : Int32)) = 0) (a := 42) (b := 26) (ls' := [(0, .ref 46)]) (st' := []) (σ' := σ) hM 5 rfl (fun c => ?_) (fun c => ?_)
    · replace h := h.2 c
      refine Pl.seg (pc' := 50) (ls' := [(0, .ref 46)]) (st' := [.int (((σ.1 46 6) + (1 : Int32)) &&& (3 : Int32))]) (σ' := σ) hM 6 rfl ?_
      refine Pl.weak (Pl.ret hM rfl rfl h)
    · replace h := h.1 c
      refine Pl.seg (pc' := 38) (ls' := [(0, .ref 46)]) (st' := [.int (((σ.1 46 7) / (4 : Int32)) - (1 : Int32)), .ref 57]) (σ' := σ) hM 8 rfl ?_
      refine Pl.weak (Pl.iald hM rfl rfl (fun hi => ?_))
      replace h := h hi
      refine Pl.seg (pc' := 50) (ls' := [(0, .ref 46)]) (st' := [.int (σ.1 57 (((σ.1 46 7) / (4 : Int32)) - (1 : Int32)).toNatClampNeg)]) (σ' := σ) hM 1 rfl ?_
      refine Pl.weak (Pl.ret hM rfl rfl h)
  · replace h := h.2 c
    refine Pl.seg (pc' := 16) (ls' := [(0, .ref 46)]) (st' := [.int (-2 : Int32)]) (σ' := σ) hM 1 rfl ?_
    refine Pl.weak (Pl.ret hM rfl rfl h)
set_option maxRecDepth 100000 in
theorem p_32_b58_0 {n d : Nat} {Q : Option Value → Sg → Prop} (σ : Sg) (x1 x2 x3 x4 : Int32) (h : Pl PRG n d 32 32 [(0, .ref 58), (5, .int (0 : Int32))] [] (s1 (s1 (s1 (s1 σ 59 0 x1) 59 1 x2) 59 2 x3) 59 3 x4) Q) : Pl PRG (n + 1) d 32 0 [(0, .ref 58), (1, .int x1), (2, .int x2), (3, .int x3), (4, .int x4)] [] σ Q := by
  have hM : PRG[32]? = some M_32 := rfl
  refine Pl.sg1 (pc' := 32) (ls' := [(5, .int (0 : Int32)), (0, .ref 58), (1, .int x1), (2, .int x2), (3, .int x3), (4, .int x4)]) (st' := []) (σ' := (s1 (s1 (s1 (s1 σ 59 0 x1) 59 1 x2) 59 2 x3) 59 3 x4)) hM 21 rfl ?_
  exact Pl.live (l' := [(0, .ref 58), (5, .int (0 : Int32))]) hM lv_32 ⟨show ndL _ from (by decide : List.Nodup ([5, 0, 1, 2, 3, 4] : List Nat)), show ndL _ from (by decide : List.Nodup ([0, 5] : List Nat)), by rw [lva_32_32]; exact List.forall_mem_cons.mpr ⟨rfl, List.forall_mem_cons.mpr ⟨rfl, fun _ h => absurd h List.not_mem_nil⟩⟩⟩ h
set_option maxRecDepth 100000 in
theorem p_32_b58_32 {n d : Nat} {Q : Option Value → Sg → Prop} (σ : Sg) (x5 : Int32) (h : (((4 : Int32) ≤ x5 → (∀ σ1, RCx PRG n 31 [.ref 58, .int (0 : Int32)] (s1 (s1 σ 58 2 (1 : Int32)) 58 7 (0 : Int32)) none σ1 → Q none σ1)) ∧ (¬ (4 : Int32) ≤ x5 → (inR x5 4 = true → (inR x5 4 = true → Pl PRG n d 32 32 [(0, .ref 58), (5, .int (x5 + (1 : Int32)))] [] (s1 σ 60 x5.toNatClampNeg (σ.1 59 x5.toNatClampNeg)) Q))))) : Pl PRG (n + 1) d 32 32 [(0, .ref 58), (5, .int x5)] [] σ Q := by
  have hM : PRG[32]? = some M_32 := rfl
  refine Pl.br1 (c := (4 : Int32) ≤ x5) (a := 58) (b := 38) (ls' := [(0, .ref 58), (5, .int x5)]) (st' := []) (σ' := σ) hM 2 rfl (fun c => ?_) (fun c => ?_)
  · replace h := h.1 c
    refine Pl.seg (pc' := 70) (ls' := [(0, .ref 58), (5, .int x5)]) (st' := [.int (0 : Int32), .ref 58]) (σ' := (s1 (s1 σ 58 2 (1 : Int32)) 58 7 (0 : Int32))) hM 8 rfl ?_
    refine Pl.weak (Pl.cV hM rfl rfl (by decide) (Mj := M_31) rfl rfl (fun σ1 hw => ?_))
    replace h := h σ1 hw
    refine Pl.weak (Pl.ret hM rfl rfl h)
  · replace h := h.2 c
    refine Pl.seg (pc' := 50) (ls' := [(0, .ref 58), (5, .int x5)]) (st' := [.int x5, .ref 59, .int x5, .ref 60]) (σ' := σ) hM 6 rfl ?_
    refine Pl.weak (Pl.iald hM rfl rfl (fun hi => ?_))
    replace h := h hi
    refine Pl.weak (Pl.iast hM rfl rfl (fun hi => ?_))
    replace h := h hi
    refine Pl.seg (pc' := 32) (ls' := [(5, .int (x5 + (1 : Int32))), (0, .ref 58)]) (st' := []) (σ' := (s1 σ 60 x5.toNatClampNeg (σ.1 59 x5.toNatClampNeg))) hM 2 rfl ?_
    exact Pl.live (l' := [(0, .ref 58), (5, .int (x5 + (1 : Int32)))]) hM lv_32 ⟨show ndL _ from (by decide : List.Nodup ([5, 0] : List Nat)), show ndL _ from (by decide : List.Nodup ([0, 5] : List Nat)), by rw [lva_32_32]; exact List.forall_mem_cons.mpr ⟨rfl, List.forall_mem_cons.mpr ⟨rfl, fun _ h => absurd h List.not_mem_nil⟩⟩⟩ h
set_option maxRecDepth 100000 in
theorem p_31_b58_0 {n d : Nat} {Q : Option Value → Sg → Prop} (σ : Sg) (x1 : Int32) (h : Q none (s1 (s1 (s1 σ 58 5 x1) 58 6 x1) 58 17 ((σ.1 58 17) + (1 : Int32)))) : Pl PRG (n + 1) d 31 0 [(0, .ref 58), (1, .int x1)] [] σ Q := by
  have hM : PRG[31]? = some M_31 := rfl
  refine Pl.sg1 (pc' := 20) (ls' := [(0, .ref 58), (1, .int x1)]) (st' := []) (σ' := (s1 (s1 (s1 σ 58 5 x1) 58 6 x1) 58 17 ((σ.1 58 17) + (1 : Int32)))) hM 11 rfl ?_
  refine Pl.weak (Pl.ret hM rfl rfl h)
set_option maxRecDepth 100000 in
theorem p_66_b58_0 {n d : Nat} {Q : Option Value → Sg → Prop} (σ : Sg) (h : Q none (s1 (s1 (s1 (s1 σ 58 2 (0 : Int32)) 58 7 (0 : Int32)) 58 6 (-2 : Int32)) 58 17 ((σ.1 58 17) + (1 : Int32)))) : Pl PRG (n + 1) d 66 0 [(0, .ref 58)] [] σ Q := by
  have hM : PRG[66]? = some M_66 := rfl
  refine Pl.sg1 (pc' := 26) (ls' := [(0, .ref 58)]) (st' := []) (σ' := (s1 (s1 (s1 (s1 σ 58 2 (0 : Int32)) 58 7 (0 : Int32)) 58 6 (-2 : Int32)) 58 17 ((σ.1 58 17) + (1 : Int32)))) hM 14 rfl ?_
  refine Pl.weak (Pl.ret hM rfl rfl h)
set_option maxRecDepth 100000 in
theorem p_63_b58_0 {n d : Nat} {Q : Option Value → Sg → Prop} (σ : Sg) (x1 : Int32) (h : (((σ.1 58 6) < 0 → Pl PRG n d 63 26 [] [] σ Q) ∧ (¬ (σ.1 58 6) < 0 → (((16 : Int32) ≤ (σ.1 58 7) → Pl PRG n d 63 26 [] [] σ Q) ∧ (¬ (16 : Int32) ≤ (σ.1 58 7) → ((x1 < 0 → Pl PRG n d 63 26 [] [] σ Q) ∧ (¬ x1 < 0 → ((x1 < (16 : Int32) → (∀ w2 σ1, RCx PRG n 34 [.ref 58] σ (some (.int w2)) σ1 → (inR (σ1.1 58 7) 16 = true → (inR (σ1.1 58 7) 16 = true → (inR (σ1.1 58 7) 16 = true → (∀ w4 σ3, RCx PRG n 37 [.ref 58, .int x1, .int w2] (s1 (s1 (s1 σ1 61 (σ1.1 58 7).toNatClampNeg x1) 62 (σ1.1 58 7).toNatClampNeg (σ1.1 58 6)) 64 (σ1.1 58 7).toNatClampNeg w2) (some (.int w4)) σ3 → (inR (σ1.1 58 7) 16 = true → (∀ w6 σ5, RCx PRG n 36 [.ref 58, .int x1] (s1 σ3 63 (σ1.1 58 7).toNatClampNeg w4) (some (.int w6)) σ5 → (inR (σ3.1 58 7) 16 = true → (inR (σ5.1 58 7) 16 = true → (((σ5.1 63 (σ5.1 58 7).toNatClampNeg) = (2 : Int32) → (inR (σ5.1 58 6) 4 = true → (inR w2 4 = true → ((((σ5.1 60 (σ5.1 58 6).toNatClampNeg) &&& (σ5.1 9 w2.toNatClampNeg)) = 0 → (inR (σ5.1 58 7) 16 = true → (∀ w15 σ14, RCx PRG n 39 [.ref 58, .int x1] (s1 (s1 σ5 65 (σ3.1 58 7).toNatClampNeg w6) 66 (σ5.1 58 7).toNatClampNeg (0 : Int32)) (some (.int w15)) σ14 → (inR (σ5.1 58 7) 16 = true → (inR (σ14.1 58 6) 4 = true → (∀ σ16, RCx PRG n 11 [.ref 12, .int (σ14.1 60 (σ14.1 58 6).toNatClampNeg)] (s1 σ14 67 (σ5.1 58 7).toNatClampNeg w15) none σ16 → (inR (σ16.1 58 7) 16 = true → (∀ w18 σ17, RCx PRG n 13 [.ref 12, .int (σ16.1 67 (σ16.1 58 7).toNatClampNeg)] σ16 (some (.int w18)) σ17 → (inR (σ16.1 58 7) 16 = true → (inR (σ17.1 58 6) 4 = true → (inR (σ17.1 58 6) 4 = true → (((((σ17.1 58 7) + (1 : Int32)) - ((σ17.1 58 7) + (1 : Int32)) / (4 : Int32) * (4 : Int32)) = 0 → (∀ w20 σ19, RCx PRG n 45 [.ref 58, .int (((σ17.1 58 7) + (1 : Int32)) - (4 : Int32))] (s1 (s1 (s1 σ17 68 (σ16.1 58 7).toNatClampNeg w18) 60 (σ17.1 58 6).toNatClampNeg ((σ17.1 60 (σ17.1 58 6).toNatClampNeg) &&& (((1 : Int32) <<< (x1 &&& 31)) ^^^ (-1 : Int32)))) 58 7 ((σ17.1 58 7) + (1 : Int32))) (some (.int w20)) σ19 → (inR w20 16 = true → (inR ((((σ17.1 58 7) + (1 : Int32)) / (4 : Int32)) - (1 : Int32)) 4 = true → Pl PRG n d 63 262 [(0, .ref 58)] [] (s1 σ19 69 ((((σ17.1 58 7) + (1 : Int32)) / (4 : Int32)) - (1 : Int32)).toNatClampNeg (σ19.1 62 w20.toNatClampNeg)) Q)))) ∧ (¬ (((σ17.1 58 7) + (1 : Int32)) - ((σ17.1 58 7) + (1 : Int32)) / (4 : Int32) * (4 : Int32)) = 0 → Pl PRG n d 63 262 [(0, .ref 58)] [] (s1 (s1 (s1 σ17 68 (σ16.1 58 7).toNatClampNeg w18) 60 (σ17.1 58 6).toNatClampNeg ((σ17.1 60 (σ17.1 58 6).toNatClampNeg) &&& (((1 : Int32) <<< (x1 &&& 31)) ^^^ (-1 : Int32)))) 58 7 ((σ17.1 58 7) + (1 : Int32))) Q))))))))))))) ∧ (¬ ((σ5.1 60 (σ5.1 58 6).toNatClampNeg) &&& (σ5.1 9 w2.toNatClampNeg)) = 0 → (inR (σ5.1 58 7) 16 = true → (∀ w22 σ21, RCx PRG n 39 [.ref 58, .int x1] (s1 (s1 σ5 65 (σ3.1 58 7).toNatClampNeg w6) 66 (σ5.1 58 7).toNatClampNeg (1 : Int32)) (some (.int w22)) σ21 → (inR (σ5.1 58 7) 16 = true → (inR (σ21.1 58 6) 4 = true → (∀ σ23, RCx PRG n 11 [.ref 12, .int (σ21.1 60 (σ21.1 58 6).toNatClampNeg)] (s1 σ21 67 (σ5.1 58 7).toNatClampNeg w22) none σ23 → (inR (σ23.1 58 7) 16 = true → (∀ w25 σ24, RCx PRG n 13 [.ref 12, .int (σ23.1 67 (σ23.1 58 7).toNatClampNeg)] σ23 (some (.int w25)) σ24 → (inR (σ23.1 58 7) 16 = true → (inR (σ24.1 58 6) 4 = true → (inR (σ24.1 58 6) 4 = true → (((((σ24.1 58 7) + (1 : Int32)) - ((σ24.1 58 7) + (1 : Int32)) / (4 : Int32) * (4 : Int32)) = 0 → (∀ w27 σ26, RCx PRG n 45 [.ref 58, .int (((σ24.1 58 7) + (1 : Int32)) - (4 : Int32))] (s1 (s1 (s1 σ24 68 (σ23.1 58 7).toNatClampNeg w25) 60 (σ24.1 58 6).toNatClampNeg ((σ24.1 60 (σ24.1 58 6).toNatClampNeg) &&& (((1 : Int32) <<< (x1 &&& 31)) ^^^ (-1 : Int32)))) 58 7 ((σ24.1 58 7) + (1 : Int32))) (some (.int w27)) σ26 → (inR w27 16 = true → (inR ((((σ24.1 58 7) + (1 : Int32)) / (4 : Int32)) - (1 : Int32)) 4 = true → Pl PRG n d 63 262 [(0, .ref 58)] [] (s1 σ26 69 ((((σ24.1 58 7) + (1 : Int32)) / (4 : Int32)) - (1 : Int32)).toNatClampNeg (σ26.1 62 w27.toNatClampNeg)) Q)))) ∧ (¬ (((σ24.1 58 7) + (1 : Int32)) - ((σ24.1 58 7) + (1 : Int32)) / (4 : Int32) * (4 : Int32)) = 0 → Pl PRG n d 63 262 [(0, .ref 58)] [] (s1 (s1 (s1 σ24 68 (σ23.1 58 7).toNatClampNeg w25) 60 (σ24.1 58 6).toNatClampNeg ((σ24.1 60 (σ24.1 58 6).toNatClampNeg) &&& (((1 : Int32) <<< (x1 &&& 31)) ^^^ (-1 : Int32)))) 58 7 ((σ24.1 58 7) + (1 : Int32))) Q))))))))))))))))) ∧ (¬ (σ5.1 63 (σ5.1 58 7).toNatClampNeg) = (2 : Int32) → (inR (σ5.1 58 7) 16 = true → (∀ w8 σ7, RCx PRG n 39 [.ref 58, .int x1] (s1 (s1 σ5 65 (σ3.1 58 7).toNatClampNeg w6) 66 (σ5.1 58 7).toNatClampNeg (0 : Int32)) (some (.int w8)) σ7 → (inR (σ5.1 58 7) 16 = true → (inR (σ7.1 58 6) 4 = true → (∀ σ9, RCx PRG n 11 [.ref 12, .int (σ7.1 60 (σ7.1 58 6).toNatClampNeg)] (s1 σ7 67 (σ5.1 58 7).toNatClampNeg w8) none σ9 → (inR (σ9.1 58 7) 16 = true → (∀ w11 σ10, RCx PRG n 13 [.ref 12, .int (σ9.1 67 (σ9.1 58 7).toNatClampNeg)] σ9 (some (.int w11)) σ10 → (inR (σ9.1 58 7) 16 = true → (inR (σ10.1 58 6) 4 = true → (inR (σ10.1 58 6) 4 = true → (((((σ10.1 58 7) + (1 : Int32)) - ((σ10.1 58 7) + (1 : Int32)) / (4 : Int32) * (4 : Int32)) = 0 → (∀ w13 σ12, RCx PRG n 45 [.ref 58, .int (((σ10.1 58 7) + (1 : Int32)) - (4 : Int32))] (s1 (s1 (s1 σ10 68 (σ9.1 58 7).toNatClampNeg w11) 60 (σ10.1 58 6).toNatClampNeg ((σ10.1 60 (σ10.1 58 6).toNatClampNeg) &&& (((1 : Int32) <<< (x1 &&& 31)) ^^^ (-1 : Int32)))) 58 7 ((σ10.1 58 7) + (1 : Int32))) (some (.int w13)) σ12 → (inR w13 16 = true → (inR ((((σ10.1 58 7) + (1 : Int32)) / (4 : Int32)) - (1 : Int32)) 4 = true → Pl PRG n d 63 262 [(0, .ref 58)] [] (s1 σ12 69 ((((σ10.1 58 7) + (1 : Int32)) / (4 : Int32)) - (1 : Int32)).toNatClampNeg (σ12.1 62 w13.toNatClampNeg)) Q)))) ∧ (¬ (((σ10.1 58 7) + (1 : Int32)) - ((σ10.1 58 7) + (1 : Int32)) / (4 : Int32) * (4 : Int32)) = 0 → Pl PRG n d 63 262 [(0, .ref 58)] [] (s1 (s1 (s1 σ10 68 (σ9.1 58 7).toNatClampNeg w11) 60 (σ10.1 58 6).toNatClampNeg ((σ10.1 60 (σ10.1 58 6).toNatClampNeg) &&& (((1 : Int32) <<< (x1 &&& 31)) ^^^ (-1 : Int32)))) 58 7 ((σ10.1 58 7) + (1 : Int32))) Q)))))))))))))))))))))))) ∧ (¬ x1 < (16 : Int32) → Pl PRG n d 63 26 [] [] σ Q))))))))) : Pl PRG (n + 1) d 63 0 [(0, .ref 58), (1, .int x1)] [] σ Q := by
  have hM : PRG[63]? = some M_63 := rfl
  refine Pl.br1 (c := (σ.1 58 6) < 0) (a := 26) (b := 7) (ls' := [(0, .ref 58), (1, .int x1)]) (st' := []) (σ' := σ) hM 2 rfl (fun c => ?_) (fun c => ?_)
  · replace h := h.1 c
    exact Pl.live (l' := []) hM lv_63 ⟨show ndL _ from (by decide : List.Nodup ([0, 1] : List Nat)), show ndL _ from (by decide : List.Nodup ([] : List Nat)), by rw [lva_63_26]; exact fun _ h => absurd h List.not_mem_nil⟩ h
  · replace h := h.2 c
    refine Pl.br (c := (16 : Int32) ≤ (σ.1 58 7)) (a := 26) (b := 16) (ls' := [(0, .ref 58), (1, .int x1)]) (st' := []) (σ' := σ) hM 4 rfl (fun c => ?_) (fun c => ?_)
    · replace h := h.1 c
      exact Pl.live (l' := []) hM lv_63 ⟨show ndL _ from (by decide : List.Nodup ([0, 1] : List Nat)), show ndL _ from (by decide : List.Nodup ([] : List Nat)), by rw [lva_63_26]; exact fun _ h => absurd h List.not_mem_nil⟩ h
    · replace h := h.2 c
      refine Pl.br (c := x1 < 0) (a := 26) (b := 20) (ls' := [(0, .ref 58), (1, .int x1)]) (st' := []) (σ' := σ) hM 2 rfl (fun c => ?_) (fun c => ?_)
      · replace h := h.1 c
        exact Pl.live (l' := []) hM lv_63 ⟨show ndL _ from (by decide : List.Nodup ([0, 1] : List Nat)), show ndL _ from (by decide : List.Nodup ([] : List Nat)), by rw [lva_63_26]; exact fun _ h => absurd h List.not_mem_nil⟩ h
      · replace h := h.2 c
        refine Pl.br (c := x1 < (16 : Int32)) (a := 27) (b := 26) (ls' := [(0, .ref 58), (1, .int x1)]) (st' := []) (σ' := σ) hM 3 rfl (fun c => ?_) (fun c => ?_)
        · replace h := h.1 c
          refine Pl.seg (pc' := 28) (ls' := [(0, .ref 58), (1, .int x1)]) (st' := [.ref 58]) (σ' := σ) hM 1 rfl ?_
          refine Pl.weak (Pl.cI hM rfl rfl (by decide) (Mj := M_34) rfl rfl (fun w2 σ1 hw => ?_))
          replace h := h w2 σ1 hw
          refine Pl.seg (pc' := 41) (ls' := [(2, .int w2), (0, .ref 58), (1, .int x1)]) (st' := [.int x1, .int (σ1.1 58 7), .ref 61]) (σ' := σ1) hM 6 rfl ?_
          refine Pl.weak (Pl.iast hM rfl rfl (fun hi => ?_))
          replace h := h hi
          refine Pl.seg (pc' := 54) (ls' := [(2, .int w2), (0, .ref 58), (1, .int x1)]) (st' := [.int (σ1.1 58 6), .int (σ1.1 58 7), .ref 62]) (σ' := (s1 σ1 61 (σ1.1 58 7).toNatClampNeg x1)) hM 6 rfl ?_
          refine Pl.weak (Pl.iast hM rfl rfl (fun hi => ?_))
          replace h := h hi
          refine Pl.seg (pc' := 64) (ls' := [(2, .int w2), (0, .ref 58), (1, .int x1)]) (st' := [.int w2, .int (σ1.1 58 7), .ref 64]) (σ' := (s1 (s1 σ1 61 (σ1.1 58 7).toNatClampNeg x1) 62 (σ1.1 58 7).toNatClampNeg (σ1.1 58 6))) hM 5 rfl ?_
          refine Pl.weak (Pl.iast hM rfl rfl (fun hi => ?_))
          replace h := h hi
          refine Pl.seg (pc' := 76) (ls' := [(2, .int w2), (0, .ref 58), (1, .int x1)]) (st' := [.int w2, .int x1, .ref 58, .int (σ1.1 58 7), .ref 63]) (σ' := (s1 (s1 (s1 σ1 61 (σ1.1 58 7).toNatClampNeg x1) 62 (σ1.1 58 7).toNatClampNeg (σ1.1 58 6)) 64 (σ1.1 58 7).toNatClampNeg w2)) hM 7 rfl ?_
          refine Pl.weak (Pl.cI hM rfl rfl (by decide) (Mj := M_37) rfl rfl (fun w4 σ3 hw => ?_))
          replace h := h w4 σ3 hw
          refine Pl.weak (Pl.iast hM rfl rfl (fun hi => ?_))
          replace h := h hi
          refine Pl.seg (pc' := 90) (ls' := [(2, .int w2), (0, .ref 58), (1, .int x1)]) (st' := [.int x1, .ref 58, .int (σ3.1 58 7), .ref 65]) (σ' := (s1 σ3 63 (σ1.1 58 7).toNatClampNeg w4)) hM 6 rfl ?_
          refine Pl.weak (Pl.cI hM rfl rfl (by decide) (Mj := M_36) rfl rfl (fun w6 σ5 hw => ?_))
          replace h := h w6 σ5 hw
          refine Pl.weak (Pl.iast hM rfl rfl (fun hi => ?_))
          replace h := h hi
          refine Pl.seg (pc' := 110) (ls' := [(2, .int w2), (0, .ref 58), (1, .int x1)]) (st' := [.int (σ5.1 58 7), .ref 63, .int (σ5.1 58 7), .ref 66]) (σ' := (s1 σ5 65 (σ3.1 58 7).toNatClampNeg w6)) hM 8 rfl ?_
          refine Pl.weak (Pl.iald hM rfl rfl (fun hi => ?_))
          replace h := h hi
          refine Pl.brN (c := (σ5.1 63 (σ5.1 58 7).toNatClampNeg) = (2 : Int32)) (a := 141) (b := 115) (ls' := [(2, .int w2), (0, .ref 58), (1, .int x1)]) (st' := [.int (σ5.1 58 7), .ref 66]) (σ' := (s1 σ5 65 (σ3.1 58 7).toNatClampNeg w6)) hM 2 rfl (fun c => ?_) (fun c => ?_)
          · replace h := h.2 c
            refine Pl.seg (pc' := 142) (ls' := [(2, .int w2), (0, .ref 58), (1, .int x1)]) (st' := [.int (0 : Int32), .int (σ5.1 58 7), .ref 66]) (σ' := (s1 σ5 65 (σ3.1 58 7).toNatClampNeg w6)) hM 1 rfl ?_
            refine Pl.weak (Pl.iast hM rfl rfl (fun hi => ?_))
            replace h := h hi
            refine Pl.seg (pc' := 153) (ls' := [(2, .int w2), (0, .ref 58), (1, .int x1)]) (st' := [.int x1, .ref 58, .int (σ5.1 58 7), .ref 67]) (σ' := (s1 (s1 σ5 65 (σ3.1 58 7).toNatClampNeg w6) 66 (σ5.1 58 7).toNatClampNeg (0 : Int32))) hM 6 rfl ?_
            refine Pl.weak (Pl.cI hM rfl rfl (by decide) (Mj := M_39) rfl rfl (fun w8 σ7 hw => ?_))
            replace h := h w8 σ7 hw
            refine Pl.weak (Pl.iast hM rfl rfl (fun hi => ?_))
            replace h := h hi
            refine Pl.seg (pc' := 169) (ls' := [(2, .int w2), (0, .ref 58), (1, .int x1)]) (st' := [.int (σ7.1 58 6), .ref 60, .ref 12]) (σ' := (s1 σ7 67 (σ5.1 58 7).toNatClampNeg w8)) hM 6 rfl ?_
            refine Pl.weak (Pl.iald hM rfl rfl (fun hi => ?_))
            replace h := h hi
            refine Pl.weak (Pl.cV hM rfl rfl (by decide) (Mj := M_11) rfl rfl (fun σ9 hw => ?_))
            replace h := h σ9 hw
            refine Pl.seg (pc' := 193) (ls' := [(2, .int w2), (0, .ref 58), (1, .int x1)]) (st' := [.int (σ9.1 58 7), .ref 67, .ref 12, .int (σ9.1 58 7), .ref 68]) (σ' := σ9) hM 10 rfl ?_
            refine Pl.weak (Pl.iald hM rfl rfl (fun hi => ?_))
            replace h := h hi
            refine Pl.weak (Pl.cI hM rfl rfl (by decide) (Mj := M_13) rfl rfl (fun w11 σ10 hw => ?_))
            replace h := h w11 σ10 hw
            refine Pl.weak (Pl.iast hM rfl rfl (fun hi => ?_))
            replace h := h hi
            refine Pl.seg (pc' := 207) (ls' := [(2, .int w2), (0, .ref 58), (1, .int x1)]) (st' := [.int (σ10.1 58 6), .ref 60, .int (σ10.1 58 6), .ref 60]) (σ' := (s1 σ10 68 (σ9.1 58 7).toNatClampNeg w11)) hM 5 rfl ?_
            refine Pl.weak (Pl.iald hM rfl rfl (fun hi => ?_))
            replace h := h hi
            refine Pl.seg (pc' := 214) (ls' := [(2, .int w2), (0, .ref 58), (1, .int x1)]) (st' := [.int ((σ10.1 60 (σ10.1 58 6).toNatClampNeg) &&& (((1 : Int32) <<< (x1 &&& 31)) ^^^ (-1 : Int32))), .int (σ10.1 58 6), .ref 60]) (σ' := (s1 σ10 68 (σ9.1 58 7).toNatClampNeg w11)) hM 6 rfl ?_
            refine Pl.weak (Pl.iast hM rfl rfl (fun hi => ?_))
            replace h := h hi
            refine Pl.brN (c := (((σ10.1 58 7) + (1 : Int32)) - ((σ10.1 58 7) + (1 : Int32)) / (4 : Int32) * (4 : Int32)) = 0) (a := 262) (b := 234) (ls' := [(2, .int w2), (0, .ref 58), (1, .int x1)]) (st' := []) (σ' := (s1 (s1 (s1 σ10 68 (σ9.1 58 7).toNatClampNeg w11) 60 (σ10.1 58 6).toNatClampNeg ((σ10.1 60 (σ10.1 58 6).toNatClampNeg) &&& (((1 : Int32) <<< (x1 &&& 31)) ^^^ (-1 : Int32)))) 58 7 ((σ10.1 58 7) + (1 : Int32)))) hM 11 rfl (fun c => ?_) (fun c => ?_)
            · replace h := h.2 c
              exact Pl.live (l' := [(0, .ref 58)]) hM lv_63 ⟨show ndL _ from (by decide : List.Nodup ([2, 0, 1] : List Nat)), show ndL _ from (by decide : List.Nodup ([0] : List Nat)), by rw [lva_63_262]; exact List.forall_mem_cons.mpr ⟨rfl, fun _ h => absurd h List.not_mem_nil⟩⟩ h
            · replace h := h.1 c
              refine Pl.seg (pc' := 257) (ls' := [(2, .int w2), (0, .ref 58), (1, .int x1)]) (st' := [.int (((σ10.1 58 7) + (1 : Int32)) - (4 : Int32)), .ref 58, .ref 62, .int ((((σ10.1 58 7) + (1 : Int32)) / (4 : Int32)) - (1 : Int32)), .ref 69]) (σ' := (s1 (s1 (s1 σ10 68 (σ9.1 58 7).toNatClampNeg w11) 60 (σ10.1 58 6).toNatClampNeg ((σ10.1 60 (σ10.1 58 6).toNatClampNeg) &&& (((1 : Int32) <<< (x1 &&& 31)) ^^^ (-1 : Int32)))) 58 7 ((σ10.1 58 7) + (1 : Int32)))) hM 15 rfl ?_
              refine Pl.weak (Pl.cI hM rfl rfl (by decide) (Mj := M_45) rfl rfl (fun w13 σ12 hw => ?_))
              replace h := h w13 σ12 hw
              refine Pl.weak (Pl.iald hM rfl rfl (fun hi => ?_))
              replace h := h hi
              refine Pl.weak (Pl.iast hM rfl rfl (fun hi => ?_))
              replace h := h hi
              exact Pl.live (l' := [(0, .ref 58)]) hM lv_63 ⟨show ndL _ from (by decide : List.Nodup ([2, 0, 1] : List Nat)), show ndL _ from (by decide : List.Nodup ([0] : List Nat)), by rw [lva_63_262]; exact List.forall_mem_cons.mpr ⟨rfl, fun _ h => absurd h List.not_mem_nil⟩⟩ h
          · replace h := h.1 c
            refine Pl.seg (pc' := 123) (ls' := [(2, .int w2), (0, .ref 58), (1, .int x1)]) (st' := [.int (σ5.1 58 6), .ref 60, .int (σ5.1 58 7), .ref 66]) (σ' := (s1 σ5 65 (σ3.1 58 7).toNatClampNeg w6)) hM 4 rfl ?_
            refine Pl.weak (Pl.iald hM rfl rfl (fun hi => ?_))
            replace h := h hi
            refine Pl.seg (pc' := 132) (ls' := [(2, .int w2), (0, .ref 58), (1, .int x1)]) (st' := [.int w2, .ref 9, .int (σ5.1 60 (σ5.1 58 6).toNatClampNeg), .int (σ5.1 58 7), .ref 66]) (σ' := (s1 σ5 65 (σ3.1 58 7).toNatClampNeg w6)) hM 4 rfl ?_
            refine Pl.weak (Pl.iald hM rfl rfl (fun hi => ?_))
            replace h := h hi
            refine Pl.br (c := ((σ5.1 60 (σ5.1 58 6).toNatClampNeg) &&& (σ5.1 9 w2.toNatClampNeg)) = 0) (a := 141) (b := 137) (ls' := [(2, .int w2), (0, .ref 58), (1, .int x1)]) (st' := [.int (σ5.1 58 7), .ref 66]) (σ' := (s1 σ5 65 (σ3.1 58 7).toNatClampNeg w6)) hM 2 rfl (fun c => ?_) (fun c => ?_)
            · replace h := h.1 c
              refine Pl.seg (pc' := 142) (ls' := [(2, .int w2), (0, .ref 58), (1, .int x1)]) (st' := [.int (0 : Int32), .int (σ5.1 58 7), .ref 66]) (σ' := (s1 σ5 65 (σ3.1 58 7).toNatClampNeg w6)) hM 1 rfl ?_
              refine Pl.weak (Pl.iast hM rfl rfl (fun hi => ?_))
              replace h := h hi
              refine Pl.seg (pc' := 153) (ls' := [(2, .int w2), (0, .ref 58), (1, .int x1)]) (st' := [.int x1, .ref 58, .int (σ5.1 58 7), .ref 67]) (σ' := (s1 (s1 σ5 65 (σ3.1 58 7).toNatClampNeg w6) 66 (σ5.1 58 7).toNatClampNeg (0 : Int32))) hM 6 rfl ?_
              refine Pl.weak (Pl.cI hM rfl rfl (by decide) (Mj := M_39) rfl rfl (fun w15 σ14 hw => ?_))
              replace h := h w15 σ14 hw
              refine Pl.weak (Pl.iast hM rfl rfl (fun hi => ?_))
              replace h := h hi
              refine Pl.seg (pc' := 169) (ls' := [(2, .int w2), (0, .ref 58), (1, .int x1)]) (st' := [.int (σ14.1 58 6), .ref 60, .ref 12]) (σ' := (s1 σ14 67 (σ5.1 58 7).toNatClampNeg w15)) hM 6 rfl ?_
              refine Pl.weak (Pl.iald hM rfl rfl (fun hi => ?_))
              replace h := h hi
              refine Pl.weak (Pl.cV hM rfl rfl (by decide) (Mj := M_11) rfl rfl (fun σ16 hw => ?_))
              replace h := h σ16 hw
              refine Pl.seg (pc' := 193) (ls' := [(2, .int w2), (0, .ref 58), (1, .int x1)]) (st' := [.int (σ16.1 58 7), .ref 67, .ref 12, .int (σ16.1 58 7), .ref 68]) (σ' := σ16) hM 10 rfl ?_
              refine Pl.weak (Pl.iald hM rfl rfl (fun hi => ?_))
              replace h := h hi
              refine Pl.weak (Pl.cI hM rfl rfl (by decide) (Mj := M_13) rfl rfl (fun w18 σ17 hw => ?_))
              replace h := h w18 σ17 hw
              refine Pl.weak (Pl.iast hM rfl rfl (fun hi => ?_))
              replace h := h hi
              refine Pl.seg (pc' := 207) (ls' := [(2, .int w2), (0, .ref 58), (1, .int x1)]) (st' := [.int (σ17.1 58 6), .ref 60, .int (σ17.1 58 6), .ref 60]) (σ' := (s1 σ17 68 (σ16.1 58 7).toNatClampNeg w18)) hM 5 rfl ?_
              refine Pl.weak (Pl.iald hM rfl rfl (fun hi => ?_))
              replace h := h hi
              refine Pl.seg (pc' := 214) (ls' := [(2, .int w2), (0, .ref 58), (1, .int x1)]) (st' := [.int ((σ17.1 60 (σ17.1 58 6).toNatClampNeg) &&& (((1 : Int32) <<< (x1 &&& 31)) ^^^ (-1 : Int32))), .int (σ17.1 58 6), .ref 60]) (σ' := (s1 σ17 68 (σ16.1 58 7).toNatClampNeg w18)) hM 6 rfl ?_
              refine Pl.weak (Pl.iast hM rfl rfl (fun hi => ?_))
              replace h := h hi
              refine Pl.brN (c := (((σ17.1 58 7) + (1 : Int32)) - ((σ17.1 58 7) + (1 : Int32)) / (4 : Int32) * (4 : Int32)) = 0) (a := 262) (b := 234) (ls' := [(2, .int w2), (0, .ref 58), (1, .int x1)]) (st' := []) (σ' := (s1 (s1 (s1 σ17 68 (σ16.1 58 7).toNatClampNeg w18) 60 (σ17.1 58 6).toNatClampNeg ((σ17.1 60 (σ17.1 58 6).toNatClampNeg) &&& (((1 : Int32) <<< (x1 &&& 31)) ^^^ (-1 : Int32)))) 58 7 ((σ17.1 58 7) + (1 : Int32)))) hM 11 rfl (fun c => ?_) (fun c => ?_)
              · replace h := h.2 c
                exact Pl.live (l' := [(0, .ref 58)]) hM lv_63 ⟨show ndL _ from (by decide : List.Nodup ([2, 0, 1] : List Nat)), show ndL _ from (by decide : List.Nodup ([0] : List Nat)), by rw [lva_63_262]; exact List.forall_mem_cons.mpr ⟨rfl, fun _ h => absurd h List.not_mem_nil⟩⟩ h
              · replace h := h.1 c
                refine Pl.seg (pc' := 257) (ls' := [(2, .int w2), (0, .ref 58), (1, .int x1)]) (st' := [.int (((σ17.1 58 7) + (1 : Int32)) - (4 : Int32)), .ref 58, .ref 62, .int ((((σ17.1 58 7) + (1 : Int32)) / (4 : Int32)) - (1 : Int32)), .ref 69]) (σ' := (s1 (s1 (s1 σ17 68 (σ16.1 58 7).toNatClampNeg w18) 60 (σ17.1 58 6).toNatClampNeg ((σ17.1 60 (σ17.1 58 6).toNatClampNeg) &&& (((1 : Int32) <<< (x1 &&& 31)) ^^^ (-1 : Int32)))) 58 7 ((σ17.1 58 7) + (1 : Int32)))) hM 15 rfl ?_
                refine Pl.weak (Pl.cI hM rfl rfl (by decide) (Mj := M_45) rfl rfl (fun w20 σ19 hw => ?_))
                replace h := h w20 σ19 hw
                refine Pl.weak (Pl.iald hM rfl rfl (fun hi => ?_))
                replace h := h hi
                refine Pl.weak (Pl.iast hM rfl rfl (fun hi => ?_))
                replace h := h hi
                exact Pl.live (l' := [(0, .ref 58)]) hM lv_63 ⟨show ndL _ from (by decide : List.Nodup ([2, 0, 1] : List Nat)), show ndL _ from (by decide : List.Nodup ([0] : List Nat)), by rw [lva_63_262]; exact List.forall_mem_cons.mpr ⟨rfl, fun _ h => absurd h List.not_mem_nil⟩⟩ h
            · replace h := h.2 c
              refine Pl.seg (pc' := 142) (ls' := [(2, .int w2), (0, .ref 58), (1, .int x1)]) (st' := [.int (1 : Int32), .int (σ5.1 58 7), .ref 66]) (σ' := (s1 σ5 65 (σ3.1 58 7).toNatClampNeg w6)) hM 2 rfl ?_
              refine Pl.weak (Pl.iast hM rfl rfl (fun hi => ?_))
              replace h := h hi
              refine Pl.seg (pc' := 153) (ls' := [(2, .int w2), (0, .ref 58), (1, .int x1)]) (st' := [.int x1, .ref 58, .int (σ5.1 58 7), .ref 67]) (σ' := (s1 (s1 σ5 65 (σ3.1 58 7).toNatClampNeg w6) 66 (σ5.1 58 7).toNatClampNeg (1 : Int32))) hM 6 rfl ?_
              refine Pl.weak (Pl.cI hM rfl rfl (by decide) (Mj := M_39) rfl rfl (fun w22 σ21 hw => ?_))
              replace h := h w22 σ21 hw
              refine Pl.weak (Pl.iast hM rfl rfl (fun hi => ?_))
              replace h := h hi
              refine Pl.seg (pc' := 169) (ls' := [(2, .int w2), (0, .ref 58), (1, .int x1)]) (st' := [.int (σ21.1 58 6), .ref 60, .ref 12]) (σ' := (s1 σ21 67 (σ5.1 58 7).toNatClampNeg w22)) hM 6 rfl ?_
              refine Pl.weak (Pl.iald hM rfl rfl (fun hi => ?_))
              replace h := h hi
              refine Pl.weak (Pl.cV hM rfl rfl (by decide) (Mj := M_11) rfl rfl (fun σ23 hw => ?_))
              replace h := h σ23 hw
              refine Pl.seg (pc' := 193) (ls' := [(2, .int w2), (0, .ref 58), (1, .int x1)]) (st' := [.int (σ23.1 58 7), .ref 67, .ref 12, .int (σ23.1 58 7), .ref 68]) (σ' := σ23) hM 10 rfl ?_
              refine Pl.weak (Pl.iald hM rfl rfl (fun hi => ?_))
              replace h := h hi
              refine Pl.weak (Pl.cI hM rfl rfl (by decide) (Mj := M_13) rfl rfl (fun w25 σ24 hw => ?_))
              replace h := h w25 σ24 hw
              refine Pl.weak (Pl.iast hM rfl rfl (fun hi => ?_))
              replace h := h hi
              refine Pl.seg (pc' := 207) (ls' := [(2, .int w2), (0, .ref 58), (1, .int x1)]) (st' := [.int (σ24.1 58 6), .ref 60, .int (σ24.1 58 6), .ref 60]) (σ' := (s1 σ24 68 (σ23.1 58 7).toNatClampNeg w25)) hM 5 rfl ?_
              refine Pl.weak (Pl.iald hM rfl rfl (fun hi => ?_))
              replace h := h hi
              refine Pl.seg (pc' := 214) (ls' := [(2, .int w2), (0, .ref 58), (1, .int x1)]) (st' := [.int ((σ24.1 60 (σ24.1 58 6).toNatClampNeg) &&& (((1 : Int32) <<< (x1 &&& 31)) ^^^ (-1 : Int32))), .int (σ24.1 58 6), .ref 60]) (σ' := (s1 σ24 68 (σ23.1 58 7).toNatClampNeg w25)) hM 6 rfl ?_
              refine Pl.weak (Pl.iast hM rfl rfl (fun hi => ?_))
              replace h := h hi
              refine Pl.brN (c := (((σ24.1 58 7) + (1 : Int32)) - ((σ24.1 58 7) + (1 : Int32)) / (4 : Int32) * (4 : Int32)) = 0) (a := 262) (b := 234) (ls' := [(2, .int w2), (0, .ref 58), (1, .int x1)]) (st' := []) (σ' := (s1 (s1 (s1 σ24 68 (σ23.1 58 7).toNatClampNeg w25) 60 (σ24.1 58 6).toNatClampNeg ((σ24.1 60 (σ24.1 58 6).toNatClampNeg) &&& (((1 : Int32) <<< (x1 &&& 31)) ^^^ (-1 : Int32)))) 58 7 ((σ24.1 58 7) + (1 : Int32)))) hM 11 rfl (fun c => ?_) (fun c => ?_)
              · replace h := h.2 c
                exact Pl.live (l' := [(0, .ref 58)]) hM lv_63 ⟨show ndL _ from (by decide : List.Nodup ([2, 0, 1] : List Nat)), show ndL _ from (by decide : List.Nodup ([0] : List Nat)), by rw [lva_63_262]; exact List.forall_mem_cons.mpr ⟨rfl, fun _ h => absurd h List.not_mem_nil⟩⟩ h
              · replace h := h.1 c
                refine Pl.seg (pc' := 257) (ls' := [(2, .int w2), (0, .ref 58), (1, .int x1)]) (st' := [.int (((σ24.1 58 7) + (1 : Int32)) - (4 : Int32)), .ref 58, .ref 62, .int ((((σ24.1 58 7) + (1 : Int32)) / (4 : Int32)) - (1 : Int32)), .ref 69]) (σ' := (s1 (s1 (s1 σ24 68 (σ23.1 58 7).toNatClampNeg w25) 60 (σ24.1 58 6).toNatClampNeg ((σ24.1 60 (σ24.1 58 6).toNatClampNeg) &&& (((1 : Int32) <<< (x1 &&& 31)) ^^^ (-1 : Int32)))) 58 7 ((σ24.1 58 7) + (1 : Int32)))) hM 15 rfl ?_
                refine Pl.weak (Pl.cI hM rfl rfl (by decide) (Mj := M_45) rfl rfl (fun w27 σ26 hw => ?_))
                replace h := h w27 σ26 hw
                refine Pl.weak (Pl.iald hM rfl rfl (fun hi => ?_))
                replace h := h hi
                refine Pl.weak (Pl.iast hM rfl rfl (fun hi => ?_))
                replace h := h hi
                exact Pl.live (l' := [(0, .ref 58)]) hM lv_63 ⟨show ndL _ from (by decide : List.Nodup ([2, 0, 1] : List Nat)), show ndL _ from (by decide : List.Nodup ([0] : List Nat)), by rw [lva_63_262]; exact List.forall_mem_cons.mpr ⟨rfl, fun _ h => absurd h List.not_mem_nil⟩⟩ h
        · replace h := h.2 c
          exact Pl.live (l' := []) hM lv_63 ⟨show ndL _ from (by decide : List.Nodup ([0, 1] : List Nat)), show ndL _ from (by decide : List.Nodup ([] : List Nat)), by rw [lva_63_26]; exact fun _ h => absurd h List.not_mem_nil⟩ h
set_option maxRecDepth 100000 in
theorem p_63_b58_26 {n d : Nat} {Q : Option Value → Sg → Prop} (σ : Sg) (h : Q none σ) : Pl PRG (n + 1) d 63 26 [] [] σ Q := by
  have hM : PRG[63]? = some M_63 := rfl
  refine Pl.ret hM rfl rfl h
set_option maxRecDepth 100000 in
theorem p_63_b58_262 {n d : Nat} {Q : Option Value → Sg → Prop} (σ : Sg) (h : (∀ w2 σ1, RCx PRG n 62 [.ref 58] σ (some (.int w2)) σ1 → Q none (s1 (s1 σ1 58 6 w2) 58 17 ((σ1.1 58 17) + (1 : Int32))))) : Pl PRG (n + 1) d 63 262 [(0, .ref 58)] [] σ Q := by
  have hM : PRG[63]? = some M_63 := rfl
  refine Pl.sg1 (pc' := 264) (ls' := [(0, .ref 58)]) (st' := [.ref 58, .ref 58]) (σ' := σ) hM 1 rfl ?_
  refine Pl.weak (Pl.cI hM rfl rfl (by decide) (Mj := M_62) rfl rfl (fun w2 σ1 hw => ?_))
  replace h := h w2 σ1 hw
  refine Pl.seg (pc' := 280) (ls' := [(0, .ref 58)]) (st' := []) (σ' := (s1 (s1 σ1 58 6 w2) 58 17 ((σ1.1 58 17) + (1 : Int32)))) hM 7 rfl ?_
  refine Pl.weak (Pl.ret hM rfl rfl h)
set_option maxRecDepth 100000 in
theorem p_34_b58_0 {n d : Nat} {Q : Option Value → Sg → Prop} (σ : Sg) (h : (((σ.1 58 7) ≤ ((σ.1 58 7) - ((σ.1 58 7) - (σ.1 58 7) / (4 : Int32) * (4 : Int32))) → Q (some (.int (-1 : Int32))) σ) ∧ (¬ (σ.1 58 7) ≤ ((σ.1 58 7) - ((σ.1 58 7) - (σ.1 58 7) / (4 : Int32) * (4 : Int32))) → (inR ((σ.1 58 7) - ((σ.1 58 7) - (σ.1 58 7) / (4 : Int32) * (4 : Int32))) 16 = true → (inR (σ.1 61 ((σ.1 58 7) - ((σ.1 58 7) - (σ.1 58 7) / (4 : Int32) * (4 : Int32))).toNatClampNeg) 16 = true → Q (some (.int (σ.1 10 (σ.1 61 ((σ.1 58 7) - ((σ.1 58 7) - (σ.1 58 7) / (4 : Int32) * (4 : Int32))).toNatClampNeg).toNatClampNeg))) σ))))) : Pl PRG (n + 1) d 34 0 [(0, .ref 58)] [] σ Q := by
  have hM : PRG[34]? = some M_34 := rfl
  refine Pl.br1 (c := (σ.1 58 7) ≤ ((σ.1 58 7) - ((σ.1 58 7) - (σ.1 58 7) / (4 : Int32) * (4 : Int32)))) (a := 37) (b := 20) (ls' := [(1, .int ((σ.1 58 7) - ((σ.1 58 7) - (σ.1 58 7) / (4 : Int32) * (4 : Int32)))), (0, .ref 58)]) (st' := []) (σ' := σ) hM 11 rfl (fun c => ?_) (fun c => ?_)
  · replace h := h.1 c
    refine Pl.seg (pc' := 38) (ls' := [(1, .int ((σ.1 58 7) - ((σ.1 58 7) - (σ.1 58 7) / (4 : Int32) * (4 : Int32)))), (0, .ref 58)]) (st' := [.int (-1 : Int32)]) (σ' := σ) hM 1 rfl ?_
    refine Pl.weak (Pl.ret hM rfl rfl h)
  · replace h := h.2 c
    refine Pl.seg (pc' := 32) (ls' := [(1, .int ((σ.1 58 7) - ((σ.1 58 7) - (σ.1 58 7) / (4 : Int32) * (4 : Int32)))), (0, .ref 58)]) (st' := [.int ((σ.1 58 7) - ((σ.1 58 7) - (σ.1 58 7) / (4 : Int32) * (4 : Int32))), .ref 61, .ref 10]) (σ' := σ) hM 6 rfl ?_
    refine Pl.weak (Pl.iald hM rfl rfl (fun hi => ?_))
    replace h := h hi
    refine Pl.weak (Pl.iald hM rfl rfl (fun hi => ?_))
    replace h := h hi
    refine Pl.seg (pc' := 38) (ls' := [(1, .int ((σ.1 58 7) - ((σ.1 58 7) - (σ.1 58 7) / (4 : Int32) * (4 : Int32)))), (0, .ref 58)]) (st' := [.int (σ.1 10 (σ.1 61 ((σ.1 58 7) - ((σ.1 58 7) - (σ.1 58 7) / (4 : Int32) * (4 : Int32))).toNatClampNeg).toNatClampNeg)]) (σ' := σ) hM 1 rfl ?_
    refine Pl.weak (Pl.ret hM rfl rfl h)
set_option maxRecDepth 100000 in
theorem p_37_b58_0 {n d : Nat} {Q : Option Value → Sg → Prop} (σ : Sg) (x1 x2 : Int32) (h : ((0 ≤ x2 → (inR x1 16 = true → (((σ.1 10 x1.toNatClampNeg) = x2 → Q (some (.int (1 : Int32))) σ) ∧ (¬ (σ.1 10 x1.toNatClampNeg) = x2 → Q (some (.int (2 : Int32))) σ)))) ∧ (¬ 0 ≤ x2 → Q (some (.int (0 : Int32))) σ))) : Pl PRG (n + 1) d 37 0 [(0, .ref 58), (1, .int x1), (2, .int x2)] [] σ Q := by
  have hM : PRG[37]? = some M_37 := rfl
  refine Pl.br1 (c := 0 ≤ x2) (a := 6) (b := 4) (ls' := [(0, .ref 58), (1, .int x1), (2, .int x2)]) (st' := []) (σ' := σ) hM 1 rfl (fun c => ?_) (fun c => ?_)
  · replace h := h.1 c
    refine Pl.seg (pc' := 14) (ls' := [(0, .ref 58), (1, .int x1), (2, .int x2)]) (st' := [.int x1, .ref 10]) (σ' := σ) hM 4 rfl ?_
    refine Pl.weak (Pl.iald hM rfl rfl (fun hi => ?_))
    replace h := h hi
    refine Pl.brN (c := (σ.1 10 x1.toNatClampNeg) = x2) (a := 23) (b := 19) (ls' := [(0, .ref 58), (1, .int x1), (2, .int x2)]) (st' := []) (σ' := σ) hM 2 rfl (fun c => ?_) (fun c => ?_)
    · replace h := h.2 c
      refine Pl.seg (pc' := 24) (ls' := [(0, .ref 58), (1, .int x1), (2, .int x2)]) (st' := [.int (2 : Int32)]) (σ' := σ) hM 1 rfl ?_
      refine Pl.weak (Pl.ret hM rfl rfl h)
    · replace h := h.1 c
      refine Pl.seg (pc' := 24) (ls' := [(0, .ref 58), (1, .int x1), (2, .int x2)]) (st' := [.int (1 : Int32)]) (σ' := σ) hM 2 rfl ?_
      refine Pl.weak (Pl.ret hM rfl rfl h)
  · replace h := h.2 c
    refine Pl.seg (pc' := 5) (ls' := [(0, .ref 58), (1, .int x1), (2, .int x2)]) (st' := [.int (0 : Int32)]) (σ' := σ) hM 1 rfl ?_
    refine Pl.weak (Pl.ret hM rfl rfl h)
set_option maxRecDepth 100000 in
theorem p_36_b58_0 {n d : Nat} {Q : Option Value → Sg → Prop} (σ : Sg) (x1 : Int32) (h : Pl PRG n d 36 7 [(0, .ref 58), (1, .int x1), (2, .int ((σ.1 58 7) - (1 : Int32)))] [] σ Q) : Pl PRG (n + 1) d 36 0 [(0, .ref 58), (1, .int x1)] [] σ Q := by
  have hM : PRG[36]? = some M_36 := rfl
  refine Pl.sg1 (pc' := 7) (ls' := [(2, .int ((σ.1 58 7) - (1 : Int32))), (0, .ref 58), (1, .int x1)]) (st' := []) (σ' := σ) hM 4 rfl ?_
  exact Pl.live (l' := [(0, .ref 58), (1, .int x1), (2, .int ((σ.1 58 7) - (1 : Int32)))]) hM lv_36 ⟨show ndL _ from (by decide : List.Nodup ([2, 0, 1] : List Nat)), show ndL _ from (by decide : List.Nodup ([0, 1, 2] : List Nat)), by rw [lva_36_7]; exact List.forall_mem_cons.mpr ⟨rfl, List.forall_mem_cons.mpr ⟨rfl, List.forall_mem_cons.mpr ⟨rfl, fun _ h => absurd h List.not_mem_nil⟩⟩⟩⟩ h
set_option maxRecDepth 100000 in
theorem p_36_b58_7 {n d : Nat} {Q : Option Value → Sg → Prop} (σ : Sg) (x1 x2 : Int32) (h : ((x2 < 0 → Q (some (.int (-1 : Int32))) σ) ∧ (¬ x2 < 0 → (inR x2 16 = true → (((σ.1 62 x2.toNatClampNeg) = (σ.1 58 6) → (inR x2 16 = true → (inR (σ.1 61 x2.toNatClampNeg) 16 = true → (inR x1 16 = true → (((σ.1 10 (σ.1 61 x2.toNatClampNeg).toNatClampNeg) = (σ.1 10 x1.toNatClampNeg) → (inR x2 16 = true → (∀ w2 σ1, RCx PRG n 9 [.ref 3, .int (σ.1 61 x2.toNatClampNeg)] σ (some (.int w2)) σ1 → Q (some (.int w2)) σ1))) ∧ (¬ (σ.1 10 (σ.1 61 x2.toNatClampNeg).toNatClampNeg) = (σ.1 10 x1.toNatClampNeg) → Pl PRG n d 36 64 [(0, .ref 58), (1, .int x1), (2, .int x2)] [] σ Q)))))) ∧ (¬ (σ.1 62 x2.toNatClampNeg) = (σ.1 58 6) → Pl PRG n d 36 64 [(0, .ref 58), (1, .int x1), (2, .int x2)] [] σ Q)))))) : Pl PRG (n + 1) d 36 7 [(0, .ref 58), (1, .int x1), (2, .int x2)] [] σ Q := by
  have hM : PRG[36]? = some M_36 := rfl
  refine Pl.br1 (c := x2 < 0) (a := 70) (b := 11) (ls' := [(0, .ref 58), (1, .int x1), (2, .int x2)]) (st' := []) (σ' := σ) hM 1 rfl (fun c => ?_) (fun c => ?_)
  · replace h := h.1 c
    refine Pl.seg (pc' := 71) (ls' := [(0, .ref 58), (1, .int x1), (2, .int x2)]) (st' := [.int (-1 : Int32)]) (σ' := σ) hM 1 rfl ?_
    refine Pl.weak (Pl.ret hM rfl rfl h)
  · replace h := h.2 c
    refine Pl.seg (pc' := 16) (ls' := [(0, .ref 58), (1, .int x1), (2, .int x2)]) (st' := [.int x2, .ref 62]) (σ' := σ) hM 3 rfl ?_
    refine Pl.weak (Pl.iald hM rfl rfl (fun hi => ?_))
    replace h := h hi
    refine Pl.brN (c := (σ.1 62 x2.toNatClampNeg) = (σ.1 58 6)) (a := 64) (b := 24) (ls' := [(0, .ref 58), (1, .int x1), (2, .int x2)]) (st' := []) (σ' := σ) hM 3 rfl (fun c => ?_) (fun c => ?_)
    · replace h := h.2 c
      exact Pl.live (l' := [(0, .ref 58), (1, .int x1), (2, .int x2)]) hM lv_36 ⟨show ndL _ from (by decide : List.Nodup ([0, 1, 2] : List Nat)), show ndL _ from (by decide : List.Nodup ([0, 1, 2] : List Nat)), by rw [lva_36_64]; exact List.forall_mem_cons.mpr ⟨rfl, List.forall_mem_cons.mpr ⟨rfl, List.forall_mem_cons.mpr ⟨rfl, fun _ h => absurd h List.not_mem_nil⟩⟩⟩⟩ h
    · replace h := h.1 c
      refine Pl.seg (pc' := 36) (ls' := [(0, .ref 58), (1, .int x1), (2, .int x2)]) (st' := [.int x2, .ref 61, .ref 10]) (σ' := σ) hM 6 rfl ?_
      refine Pl.weak (Pl.iald hM rfl rfl (fun hi => ?_))
      replace h := h hi
      refine Pl.weak (Pl.iald hM rfl rfl (fun hi => ?_))
      replace h := h hi
      refine Pl.seg (pc' := 46) (ls' := [(0, .ref 58), (1, .int x1), (2, .int x2)]) (st' := [.int x1, .ref 10, .int (σ.1 10 (σ.1 61 x2.toNatClampNeg).toNatClampNeg)]) (σ' := σ) hM 4 rfl ?_
      refine Pl.weak (Pl.iald hM rfl rfl (fun hi => ?_))
      replace h := h hi
      refine Pl.brN (c := (σ.1 10 (σ.1 61 x2.toNatClampNeg).toNatClampNeg) = (σ.1 10 x1.toNatClampNeg)) (a := 64) (b := 50) (ls' := [(0, .ref 58), (1, .int x1), (2, .int x2)]) (st' := []) (σ' := σ) hM 1 rfl (fun c => ?_) (fun c => ?_)
      · replace h := h.2 c
        exact Pl.live (l' := [(0, .ref 58), (1, .int x1), (2, .int x2)]) hM lv_36 ⟨show ndL _ from (by decide : List.Nodup ([0, 1, 2] : List Nat)), show ndL _ from (by decide : List.Nodup ([0, 1, 2] : List Nat)), by rw [lva_36_64]; exact List.forall_mem_cons.mpr ⟨rfl, List.forall_mem_cons.mpr ⟨rfl, List.forall_mem_cons.mpr ⟨rfl, fun _ h => absurd h List.not_mem_nil⟩⟩⟩⟩ h
      · replace h := h.1 c
        refine Pl.seg (pc' := 59) (ls' := [(0, .ref 58), (1, .int x1), (2, .int x2)]) (st' := [.int x2, .ref 61, .ref 3]) (σ' := σ) hM 5 rfl ?_
        refine Pl.weak (Pl.iald hM rfl rfl (fun hi => ?_))
        replace h := h hi
        refine Pl.weak (Pl.cI hM rfl rfl (by decide) (Mj := M_9) rfl rfl (fun w2 σ1 hw => ?_))
        replace h := h w2 σ1 hw
        refine Pl.weak (Pl.ret hM rfl rfl h)
set_option maxRecDepth 100000 in
theorem p_36_b58_64 {n d : Nat} {Q : Option Value → Sg → Prop} (σ : Sg) (x1 x2 : Int32) (h : Pl PRG n d 36 7 [(0, .ref 58), (1, .int x1), (2, .int (x2 + (-1 : Int32)))] [] σ Q) : Pl PRG (n + 1) d 36 64 [(0, .ref 58), (1, .int x1), (2, .int x2)] [] σ Q := by
  have hM : PRG[36]? = some M_36 := rfl
  refine Pl.sg1 (pc' := 7) (ls' := [(2, .int (x2 + (-1 : Int32))), (0, .ref 58), (1, .int x1)]) (st' := []) (σ' := σ) hM 1 rfl ?_
  exact Pl.live (l' := [(0, .ref 58), (1, .int x1), (2, .int (x2 + (-1 : Int32)))]) hM lv_36 ⟨show ndL _ from (by decide : List.Nodup ([2, 0, 1] : List Nat)), show ndL _ from (by decide : List.Nodup ([0, 1, 2] : List Nat)), by rw [lva_36_7]; exact List.forall_mem_cons.mpr ⟨rfl, List.forall_mem_cons.mpr ⟨rfl, List.forall_mem_cons.mpr ⟨rfl, fun _ h => absurd h List.not_mem_nil⟩⟩⟩⟩ h
set_option maxRecDepth 100000 in
theorem p_39_b58_0 {n d : Nat} {Q : Option Value → Sg → Prop} (σ : Sg) (x1 : Int32) (h : (∀ w2 σ1, RCx PRG n 34 [.ref 58] σ (some (.int w2)) σ1 → (∀ w4 σ3, RCx PRG n 36 [.ref 58, .int x1] σ1 (some (.int w4)) σ3 → (∀ σ5, RCx PRG n 10 [.ref 12, .int x1, .int w2, .int ((σ1.1 58 7) / (4 : Int32)), .int w4] σ3 none σ5 → (∀ w7 σ6, RCx PRG n 37 [.ref 58, .int x1, .int w2] σ5 (some (.int w7)) σ6 → (∀ w9 σ8, RCx PRG n 38 [.ref 12, .int w7, .int ((σ6.1 58 6) &&& (1 : Int32))] σ6 (some (.int w9)) σ8 → Q (some (.int w9)) σ8)))))) : Pl PRG (n + 1) d 39 0 [(0, .ref 58), (1, .int x1)] [] σ Q := by
  have hM : PRG[39]? = some M_39 := rfl
  refine Pl.sg1 (pc' := 1) (ls' := [(0, .ref 58), (1, .int x1)]) (st' := [.ref 58]) (σ' := σ) hM 0 rfl ?_
  refine Pl.weak (Pl.cI hM rfl rfl (by decide) (Mj := M_34) rfl rfl (fun w2 σ1 hw => ?_))
  replace h := h w2 σ1 hw
  refine Pl.seg (pc' := 19) (ls' := [(2, .int w2), (0, .ref 58), (1, .int x1)]) (st' := [.int x1, .ref 58, .int ((σ1.1 58 7) / (4 : Int32)), .int w2, .int x1, .ref 12]) (σ' := σ1) hM 11 rfl ?_
  refine Pl.weak (Pl.cI hM rfl rfl (by decide) (Mj := M_36) rfl rfl (fun w4 σ3 hw => ?_))
  replace h := h w4 σ3 hw
  refine Pl.weak (Pl.cV hM rfl rfl (by decide) (Mj := M_10) rfl rfl (fun σ5 hw => ?_))
  replace h := h σ5 hw
  refine Pl.seg (pc' := 32) (ls' := [(2, .int w2), (0, .ref 58), (1, .int x1)]) (st' := [.int w2, .int x1, .ref 58, .ref 12]) (σ' := σ5) hM 5 rfl ?_
  refine Pl.weak (Pl.cI hM rfl rfl (by decide) (Mj := M_37) rfl rfl (fun w7 σ6 hw => ?_))
  replace h := h w7 σ6 hw
  refine Pl.seg (pc' := 41) (ls' := [(2, .int w2), (0, .ref 58), (1, .int x1)]) (st' := [.int ((σ6.1 58 6) &&& (1 : Int32)), .int w7, .ref 12]) (σ' := σ6) hM 4 rfl ?_
  refine Pl.weak (Pl.cI hM rfl rfl (by decide) (Mj := M_38) rfl rfl (fun w9 σ8 hw => ?_))
  replace h := h w9 σ8 hw
  refine Pl.weak (Pl.ret hM rfl rfl h)
set_option maxRecDepth 100000 in
theorem p_45_b58_0 {n d : Nat} {Q : Option Value → Sg → Prop} (σ : Sg) (x1 : Int32) (h : Pl PRG n d 45 6 [(0, .ref 58), (1, .int x1), (2, .int x1), (3, .int (x1 + (1 : Int32)))] [] σ Q) : Pl PRG (n + 1) d 45 0 [(0, .ref 58), (1, .int x1)] [] σ Q := by
  have hM : PRG[45]? = some M_45 := rfl
  refine Pl.sg1 (pc' := 6) (ls' := [(3, .int (x1 + (1 : Int32))), (2, .int x1), (0, .ref 58), (1, .int x1)]) (st' := []) (σ' := σ) hM 5 rfl ?_
  exact Pl.live (l' := [(0, .ref 58), (1, .int x1), (2, .int x1), (3, .int (x1 + (1 : Int32)))]) hM lv_45 ⟨show ndL _ from (by decide : List.Nodup ([3, 2, 0, 1] : List Nat)), show ndL _ from (by decide : List.Nodup ([0, 1, 2, 3] : List Nat)), by rw [lva_45_6]; exact List.forall_mem_cons.mpr ⟨rfl, List.forall_mem_cons.mpr ⟨rfl, List.forall_mem_cons.mpr ⟨rfl, List.forall_mem_cons.mpr ⟨rfl, fun _ h => absurd h List.not_mem_nil⟩⟩⟩⟩⟩ h
set_option maxRecDepth 100000 in
theorem p_45_b58_6 {n d : Nat} {Q : Option Value → Sg → Prop} (σ : Sg) (x1 x2 x3 : Int32) (h : (((σ.1 58 7) ≤ x3 → Pl PRG n d 45 106 [(2, .int x2)] [] σ Q) ∧ (¬ (σ.1 58 7) ≤ x3 → (((x1 + (4 : Int32)) ≤ x3 → Pl PRG n d 45 106 [(2, .int x2)] [] σ Q) ∧ (¬ (x1 + (4 : Int32)) ≤ x3 → (inR x3 16 = true → (inR (σ.1 61 x3.toNatClampNeg) 16 = true → (inR x2 16 = true → (inR (σ.1 61 x2.toNatClampNeg) 16 = true → (((σ.1 10 (σ.1 61 x3.toNatClampNeg).toNatClampNeg) = (σ.1 10 (σ.1 61 x2.toNatClampNeg).toNatClampNeg) → (inR x3 16 = true → (inR x2 16 = true → (((σ.1 61 x3.toNatClampNeg) ≤ (σ.1 61 x2.toNatClampNeg) → Pl PRG n d 45 100 [(0, .ref 58), (1, .int x1), (2, .int x2), (3, .int x3)] [] σ Q) ∧ (¬ (σ.1 61 x3.toNatClampNeg) ≤ (σ.1 61 x2.toNatClampNeg) → Pl PRG n d 45 98 [(0, .ref 58), (1, .int x1), (3, .int x3)] [] σ Q))))) ∧ (¬ (σ.1 10 (σ.1 61 x3.toNatClampNeg).toNatClampNeg) = (σ.1 10 (σ.1 61 x2.toNatClampNeg).toNatClampNeg) → (((σ.1 10 (σ.1 61 x3.toNatClampNeg).toNatClampNeg) = (σ.1 3 2) → Pl PRG n d 45 98 [(0, .ref 58), (1, .int x1), (3, .int x3)] [] σ Q) ∧ (¬ (σ.1 10 (σ.1 61 x3.toNatClampNeg).toNatClampNeg) = (σ.1 3 2) → Pl PRG n d 45 100 [(0, .ref 58), (1, .int x1), (2, .int x2), (3, .int x3)] [] σ Q))))))))))))) : Pl PRG (n + 1) d 45 6 [(0, .ref 58), (1, .int x1), (2, .int x2), (3, .int x3)] [] σ Q := by
  have hM : PRG[45]? = some M_45 := rfl
  refine Pl.br1 (c := (σ.1 58 7) ≤ x3) (a := 106) (b := 14) (ls' := [(0, .ref 58), (1, .int x1), (2, .int x2), (3, .int x3)]) (st' := []) (σ' := σ) hM 3 rfl (fun c => ?_) (fun c => ?_)
  · replace h := h.1 c
    exact Pl.live (l' := [(2, .int x2)]) hM lv_45 ⟨show ndL _ from (by decide : List.Nodup ([0, 1, 2, 3] : List Nat)), show ndL _ from (by decide : List.Nodup ([2] : List Nat)), by rw [lva_45_106]; exact List.forall_mem_cons.mpr ⟨rfl, fun _ h => absurd h List.not_mem_nil⟩⟩ h
  · replace h := h.2 c
    refine Pl.br (c := (x1 + (4 : Int32)) ≤ x3) (a := 106) (b := 21) (ls' := [(0, .ref 58), (1, .int x1), (2, .int x2), (3, .int x3)]) (st' := []) (σ' := σ) hM 5 rfl (fun c => ?_) (fun c => ?_)
    · replace h := h.1 c
      exact Pl.live (l' := [(2, .int x2)]) hM lv_45 ⟨show ndL _ from (by decide : List.Nodup ([0, 1, 2, 3] : List Nat)), show ndL _ from (by decide : List.Nodup ([2] : List Nat)), by rw [lva_45_106]; exact List.forall_mem_cons.mpr ⟨rfl, fun _ h => absurd h List.not_mem_nil⟩⟩ h
    · replace h := h.2 c
      refine Pl.seg (pc' := 33) (ls' := [(0, .ref 58), (1, .int x1), (2, .int x2), (3, .int x3)]) (st' := [.int x3, .ref 61, .ref 10]) (σ' := σ) hM 6 rfl ?_
      refine Pl.weak (Pl.iald hM rfl rfl (fun hi => ?_))
      replace h := h hi
      refine Pl.weak (Pl.iald hM rfl rfl (fun hi => ?_))
      replace h := h hi
      refine Pl.seg (pc' := 51) (ls' := [(4, .int (σ.1 10 (σ.1 61 x3.toNatClampNeg).toNatClampNeg)), (0, .ref 58), (1, .int x1), (2, .int x2), (3, .int x3)]) (st' := [.int x2, .ref 61, .ref 10, .int (σ.1 10 (σ.1 61 x3.toNatClampNeg).toNatClampNeg)]) (σ' := σ) hM 8 rfl ?_
      refine Pl.weak (Pl.iald hM rfl rfl (fun hi => ?_))
      replace h := h hi
      refine Pl.weak (Pl.iald hM rfl rfl (fun hi => ?_))
      replace h := h hi
      refine Pl.brN (c := (σ.1 10 (σ.1 61 x3.toNatClampNeg).toNatClampNeg) = (σ.1 10 (σ.1 61 x2.toNatClampNeg).toNatClampNeg)) (a := 60) (b := 56) (ls' := [(4, .int (σ.1 10 (σ.1 61 x3.toNatClampNeg).toNatClampNeg)), (0, .ref 58), (1, .int x1), (2, .int x2), (3, .int x3)]) (st' := []) (σ' := σ) hM 1 rfl (fun c => ?_) (fun c => ?_)
      · replace h := h.2 c
        refine Pl.brN (c := (σ.1 10 (σ.1 61 x3.toNatClampNeg).toNatClampNeg) = (σ.1 3 2)) (a := 100) (b := 98) (ls' := [(5, .int (0 : Int32)), (4, .int (σ.1 10 (σ.1 61 x3.toNatClampNeg).toNatClampNeg)), (0, .ref 58), (1, .int x1), (2, .int x2), (3, .int x3)]) (st' := []) (σ' := σ) hM 9 rfl (fun c => ?_) (fun c => ?_)
        · replace h := h.2 c
          exact Pl.live (l' := [(0, .ref 58), (1, .int x1), (2, .int x2), (3, .int x3)]) hM lv_45 ⟨show ndL _ from (by decide : List.Nodup ([5, 4, 0, 1, 2, 3] : List Nat)), show ndL _ from (by decide : List.Nodup ([0, 1, 2, 3] : List Nat)), by rw [lva_45_100]; exact List.forall_mem_cons.mpr ⟨rfl, List.forall_mem_cons.mpr ⟨rfl, List.forall_mem_cons.mpr ⟨rfl, List.forall_mem_cons.mpr ⟨rfl, fun _ h => absurd h List.not_mem_nil⟩⟩⟩⟩⟩ h
        · replace h := h.1 c
          exact Pl.live (l' := [(0, .ref 58), (1, .int x1), (3, .int x3)]) hM lv_45 ⟨show ndL _ from (by decide : List.Nodup ([5, 4, 0, 1, 2, 3] : List Nat)), show ndL _ from (by decide : List.Nodup ([0, 1, 3] : List Nat)), by rw [lva_45_98]; exact List.forall_mem_cons.mpr ⟨rfl, List.forall_mem_cons.mpr ⟨rfl, List.forall_mem_cons.mpr ⟨rfl, fun _ h => absurd h List.not_mem_nil⟩⟩⟩⟩ h
      · replace h := h.1 c
        refine Pl.seg (pc' := 73) (ls' := [(5, .int (1 : Int32)), (4, .int (σ.1 10 (σ.1 61 x3.toNatClampNeg).toNatClampNeg)), (0, .ref 58), (1, .int x1), (2, .int x2), (3, .int x3)]) (st' := [.int x3, .ref 61]) (σ' := σ) hM 8 rfl ?_
        refine Pl.weak (Pl.iald hM rfl rfl (fun hi => ?_))
        replace h := h hi
        refine Pl.seg (pc' := 79) (ls' := [(5, .int (1 : Int32)), (4, .int (σ.1 10 (σ.1 61 x3.toNatClampNeg).toNatClampNeg)), (0, .ref 58), (1, .int x1), (2, .int x2), (3, .int x3)]) (st' := [.int x2, .ref 61, .int (σ.1 61 x3.toNatClampNeg)]) (σ' := σ) hM 3 rfl ?_
        refine Pl.weak (Pl.iald hM rfl rfl (fun hi => ?_))
        replace h := h hi
        refine Pl.br (c := (σ.1 61 x3.toNatClampNeg) ≤ (σ.1 61 x2.toNatClampNeg)) (a := 100) (b := 83) (ls' := [(5, .int (1 : Int32)), (4, .int (σ.1 10 (σ.1 61 x3.toNatClampNeg).toNatClampNeg)), (0, .ref 58), (1, .int x1), (2, .int x2), (3, .int x3)]) (st' := []) (σ' := σ) hM 1 rfl (fun c => ?_) (fun c => ?_)
        · replace h := h.1 c
          exact Pl.live (l' := [(0, .ref 58), (1, .int x1), (2, .int x2), (3, .int x3)]) hM lv_45 ⟨show ndL _ from (by decide : List.Nodup ([5, 4, 0, 1, 2, 3] : List Nat)), show ndL _ from (by decide : List.Nodup ([0, 1, 2, 3] : List Nat)), by rw [lva_45_100]; exact List.forall_mem_cons.mpr ⟨rfl, List.forall_mem_cons.mpr ⟨rfl, List.forall_mem_cons.mpr ⟨rfl, List.forall_mem_cons.mpr ⟨rfl, fun _ h => absurd h List.not_mem_nil⟩⟩⟩⟩⟩ h
        · replace h := h.2 c
          refine Pl.seg (pc' := 98) (ls' := [(5, .int (1 : Int32)), (4, .int (σ.1 10 (σ.1 61 x3.toNatClampNeg).toNatClampNeg)), (0, .ref 58), (1, .int x1), (2, .int x2), (3, .int x3)]) (st' := []) (σ' := σ) hM 1 rfl ?_
          exact Pl.live (l' := [(0, .ref 58), (1, .int x1), (3, .int x3)]) hM lv_45 ⟨show ndL _ from (by decide : List.Nodup ([5, 4, 0, 1, 2, 3] : List Nat)), show ndL _ from (by decide : List.Nodup ([0, 1, 3] : List Nat)), by rw [lva_45_98]; exact List.forall_mem_cons.mpr ⟨rfl, List.forall_mem_cons.mpr ⟨rfl, List.forall_mem_cons.mpr ⟨rfl, fun _ h => absurd h List.not_mem_nil⟩⟩⟩⟩ h
set_option maxRecDepth 100000 in
theorem p_45_b58_106 {n d : Nat} {Q : Option Value → Sg → Prop} (σ : Sg) (x2 : Int32) (h : Q (some (.int x2)) σ) : Pl PRG (n + 1) d 45 106 [(2, .int x2)] [] σ Q := by
  have hM : PRG[45]? = some M_45 := rfl
  refine Pl.sg1 (pc' := 107) (ls' := [(2, .int x2)]) (st' := [.int x2]) (σ' := σ) hM 0 rfl ?_
  refine Pl.weak (Pl.ret hM rfl rfl h)
set_option maxRecDepth 100000 in
theorem p_45_b58_100 {n d : Nat} {Q : Option Value → Sg → Prop} (σ : Sg) (x1 x2 x3 : Int32) (h : Pl PRG n d 45 6 [(0, .ref 58), (1, .int x1), (2, .int x2), (3, .int (x3 + (1 : Int32)))] [] σ Q) : Pl PRG (n + 1) d 45 100 [(0, .ref 58), (1, .int x1), (2, .int x2), (3, .int x3)] [] σ Q := by
  have hM : PRG[45]? = some M_45 := rfl
  refine Pl.sg1 (pc' := 6) (ls' := [(3, .int (x3 + (1 : Int32))), (0, .ref 58), (1, .int x1), (2, .int x2)]) (st' := []) (σ' := σ) hM 1 rfl ?_
  exact Pl.live (l' := [(0, .ref 58), (1, .int x1), (2, .int x2), (3, .int (x3 + (1 : Int32)))]) hM lv_45 ⟨show ndL _ from (by decide : List.Nodup ([3, 0, 1, 2] : List Nat)), show ndL _ from (by decide : List.Nodup ([0, 1, 2, 3] : List Nat)), by rw [lva_45_6]; exact List.forall_mem_cons.mpr ⟨rfl, List.forall_mem_cons.mpr ⟨rfl, List.forall_mem_cons.mpr ⟨rfl, List.forall_mem_cons.mpr ⟨rfl, fun _ h => absurd h List.not_mem_nil⟩⟩⟩⟩⟩ h
set_option maxRecDepth 100000 in
theorem p_45_b58_98 {n d : Nat} {Q : Option Value → Sg → Prop} (σ : Sg) (x1 x3 : Int32) (h : Pl PRG n d 45 100 [(0, .ref 58), (1, .int x1), (2, .int x3), (3, .int x3)] [] σ Q) : Pl PRG (n + 1) d 45 98 [(0, .ref 58), (1, .int x1), (3, .int x3)] [] σ Q := by
  have hM : PRG[45]? = some M_45 := rfl
  refine Pl.sg1 (pc' := 100) (ls' := [(2, .int x3), (0, .ref 58), (1, .int x1), (3, .int x3)]) (st' := []) (σ' := σ) hM 1 rfl ?_
  exact Pl.live (l' := [(0, .ref 58), (1, .int x1), (2, .int x3), (3, .int x3)]) hM lv_45 ⟨show ndL _ from (by decide : List.Nodup ([2, 0, 1, 3] : List Nat)), show ndL _ from (by decide : List.Nodup ([0, 1, 2, 3] : List Nat)), by rw [lva_45_100]; exact List.forall_mem_cons.mpr ⟨rfl, List.forall_mem_cons.mpr ⟨rfl, List.forall_mem_cons.mpr ⟨rfl, List.forall_mem_cons.mpr ⟨rfl, fun _ h => absurd h List.not_mem_nil⟩⟩⟩⟩⟩ h
set_option maxRecDepth 100000 in
theorem p_62_b58_0 {n d : Nat} {Q : Option Value → Sg → Prop} (σ : Sg) (h : (((σ.1 58 7) < (σ.1 3 10) → ((((σ.1 58 7) - (σ.1 58 7) / (4 : Int32) * (4 : Int32)) = 0 → (inR (((σ.1 58 7) / (4 : Int32)) - (1 : Int32)) 4 = true → Q (some (.int (σ.1 69 (((σ.1 58 7) / (4 : Int32)) - (1 : Int32)).toNatClampNeg))) σ)) ∧ (¬ ((σ.1 58 7) - (σ.1 58 7) / (4 : Int32) * (4 : Int32)) = 0 → Q (some (.int (((σ.1 58 6) + (1 : Int32)) &&& (3 : Int32)))) σ))) ∧ (¬ (σ.1 58 7) < (σ.1 3 10) → Q (some (.int (-2 : Int32))) σ))) : Pl PRG (n + 1) d 62 0 [(0, .ref 58)] [] σ Q := by
  have hM : PRG[62]? = some M_62 := rfl
  refine Pl.br1 (c := (σ.1 58 7) < (σ.1 3 10)) (a := 17) (b := 14) (ls' := [(0, .ref 58)]) (st' := []) (σ' := σ) hM 5 rfl (fun c => ?_) (fun c => ?_)
  · replace h := h.1 c
    refine Pl.brN (c := ((σ.1 58 7) - (σ.1 58 7) / (4 : Int32) * (4 : Int32)) = 0) (a := 42) (b := 26) (ls' := [(0, .ref 58)]) (st' := []) (σ' := σ) hM 5 rfl (fun c => ?_) (fun c => ?_)
    · replace h := h.2 c
      refine Pl.seg (pc' := 50) (ls' := [(0, .ref 58)]) (st' := [.int (((σ.1 58 6) + (1 : Int32)) &&& (3 : Int32))]) (σ' := σ) hM 6 rfl ?_
      refine Pl.weak (Pl.ret hM rfl rfl h)
    · replace h := h.1 c
      refine Pl.seg (pc' := 38) (ls' := [(0, .ref 58)]) (st' := [.int (((σ.1 58 7) / (4 : Int32)) - (1 : Int32)), .ref 69]) (σ' := σ) hM 8 rfl ?_
      refine Pl.weak (Pl.iald hM rfl rfl (fun hi => ?_))
      replace h := h hi
      refine Pl.seg (pc' := 50) (ls' := [(0, .ref 58)]) (st' := [.int (σ.1 69 (((σ.1 58 7) / (4 : Int32)) - (1 : Int32)).toNatClampNeg)]) (σ' := σ) hM 1 rfl ?_
      refine Pl.weak (Pl.ret hM rfl rfl h)
  · replace h := h.2 c
    refine Pl.seg (pc' := 16) (ls' := [(0, .ref 58)]) (st' := [.int (-2 : Int32)]) (σ' := σ) hM 1 rfl ?_
    refine Pl.weak (Pl.ret hM rfl rfl h)
set_option maxRecDepth 100000 in
theorem p_32_b34_0 {n d : Nat} {Q : Option Value → Sg → Prop} (σ : Sg) (x1 x2 x3 x4 : Int32) (h : Pl PRG n d 32 32 [(0, .ref 34), (5, .int (0 : Int32))] [] (s1 (s1 (s1 (s1 σ 35 0 x1) 35 1 x2) 35 2 x3) 35 3 x4) Q) : Pl PRG (n + 1) d 32 0 [(0, .ref 34), (1, .int x1), (2, .int x2), (3, .int x3), (4, .int x4)] [] σ Q := by
  have hM : PRG[32]? = some M_32 := rfl
  refine Pl.sg1 (pc' := 32) (ls' := [(5, .int (0 : Int32)), (0, .ref 34), (1, .int x1), (2, .int x2), (3, .int x3), (4, .int x4)]) (st' := []) (σ' := (s1 (s1 (s1 (s1 σ 35 0 x1) 35 1 x2) 35 2 x3) 35 3 x4)) hM 21 rfl ?_
  exact Pl.live (l' := [(0, .ref 34), (5, .int (0 : Int32))]) hM lv_32 ⟨show ndL _ from (by decide : List.Nodup ([5, 0, 1, 2, 3, 4] : List Nat)), show ndL _ from (by decide : List.Nodup ([0, 5] : List Nat)), by rw [lva_32_32]; exact List.forall_mem_cons.mpr ⟨rfl, List.forall_mem_cons.mpr ⟨rfl, fun _ h => absurd h List.not_mem_nil⟩⟩⟩ h
set_option maxRecDepth 100000 in
theorem p_32_b34_32 {n d : Nat} {Q : Option Value → Sg → Prop} (σ : Sg) (x5 : Int32) (h : (((4 : Int32) ≤ x5 → (∀ σ1, RCx PRG n 31 [.ref 34, .int (0 : Int32)] (s1 (s1 σ 34 2 (1 : Int32)) 34 7 (0 : Int32)) none σ1 → Q none σ1)) ∧ (¬ (4 : Int32) ≤ x5 → (inR x5 4 = true → (inR x5 4 = true → Pl PRG n d 32 32 [(0, .ref 34), (5, .int (x5 + (1 : Int32)))] [] (s1 σ 36 x5.toNatClampNeg (σ.1 35 x5.toNatClampNeg)) Q))))) : Pl PRG (n + 1) d 32 32 [(0, .ref 34), (5, .int x5)] [] σ Q := by
  have hM : PRG[32]? = some M_32 := rfl
  refine Pl.br1 (c := (4 : Int32) ≤ x5) (a := 58) (b := 38) (ls' := [(0, .ref 34), (5, .int x5)]) (st' := []) (σ' := σ) hM 2 rfl (fun c => ?_) (fun c => ?_)
  · replace h := h.1 c
    refine Pl.seg (pc' := 70) (ls' := [(0, .ref 34), (5, .int x5)]) (st' := [.int (0 : Int32), .ref 34]) (σ' := (s1 (s1 σ 34 2 (1 : Int32)) 34 7 (0 : Int32))) hM 8 rfl ?_
    refine Pl.weak (Pl.cV hM rfl rfl (by decide) (Mj := M_31) rfl rfl (fun σ1 hw => ?_))
    replace h := h σ1 hw
    refine Pl.weak (Pl.ret hM rfl rfl h)
  · replace h := h.2 c
    refine Pl.seg (pc' := 50) (ls' := [(0, .ref 34), (5, .int x5)]) (st' := [.int x5, .ref 35, .int x5, .ref 36]) (σ' := σ) hM 6 rfl ?_
    refine Pl.weak (Pl.iald hM rfl rfl (fun hi => ?_))
    replace h := h hi
    refine Pl.weak (Pl.iast hM rfl rfl (fun hi => ?_))
    replace h := h hi
    refine Pl.seg (pc' := 32) (ls' := [(5, .int (x5 + (1 : Int32))), (0, .ref 34)]) (st' := []) (σ' := (s1 σ 36 x5.toNatClampNeg (σ.1 35 x5.toNatClampNeg))) hM 2 rfl ?_
    exact Pl.live (l' := [(0, .ref 34), (5, .int (x5 + (1 : Int32)))]) hM lv_32 ⟨show ndL _ from (by decide : List.Nodup ([5, 0] : List Nat)), show ndL _ from (by decide : List.Nodup ([0, 5] : List Nat)), by rw [lva_32_32]; exact List.forall_mem_cons.mpr ⟨rfl, List.forall_mem_cons.mpr ⟨rfl, fun _ h => absurd h List.not_mem_nil⟩⟩⟩ h
set_option maxRecDepth 100000 in
theorem p_31_b34_0 {n d : Nat} {Q : Option Value → Sg → Prop} (σ : Sg) (x1 : Int32) (h : Q none (s1 (s1 (s1 σ 34 5 x1) 34 6 x1) 34 17 ((σ.1 34 17) + (1 : Int32)))) : Pl PRG (n + 1) d 31 0 [(0, .ref 34), (1, .int x1)] [] σ Q := by
  have hM : PRG[31]? = some M_31 := rfl
  refine Pl.sg1 (pc' := 20) (ls' := [(0, .ref 34), (1, .int x1)]) (st' := []) (σ' := (s1 (s1 (s1 σ 34 5 x1) 34 6 x1) 34 17 ((σ.1 34 17) + (1 : Int32)))) hM 11 rfl ?_
  refine Pl.weak (Pl.ret hM rfl rfl h)
set_option maxRecDepth 100000 in
theorem p_66_b34_0 {n d : Nat} {Q : Option Value → Sg → Prop} (σ : Sg) (h : Q none (s1 (s1 (s1 (s1 σ 34 2 (0 : Int32)) 34 7 (0 : Int32)) 34 6 (-2 : Int32)) 34 17 ((σ.1 34 17) + (1 : Int32)))) : Pl PRG (n + 1) d 66 0 [(0, .ref 34)] [] σ Q := by
  have hM : PRG[66]? = some M_66 := rfl
  refine Pl.sg1 (pc' := 26) (ls' := [(0, .ref 34)]) (st' := []) (σ' := (s1 (s1 (s1 (s1 σ 34 2 (0 : Int32)) 34 7 (0 : Int32)) 34 6 (-2 : Int32)) 34 17 ((σ.1 34 17) + (1 : Int32)))) hM 14 rfl ?_
  refine Pl.weak (Pl.ret hM rfl rfl h)
set_option maxRecDepth 100000 in
theorem p_63_b34_0 {n d : Nat} {Q : Option Value → Sg → Prop} (σ : Sg) (x1 : Int32) (h : (((σ.1 34 6) < 0 → Pl PRG n d 63 26 [] [] σ Q) ∧ (¬ (σ.1 34 6) < 0 → (((16 : Int32) ≤ (σ.1 34 7) → Pl PRG n d 63 26 [] [] σ Q) ∧ (¬ (16 : Int32) ≤ (σ.1 34 7) → ((x1 < 0 → Pl PRG n d 63 26 [] [] σ Q) ∧ (¬ x1 < 0 → ((x1 < (16 : Int32) → (∀ w2 σ1, RCx PRG n 34 [.ref 34] σ (some (.int w2)) σ1 → (inR (σ1.1 34 7) 16 = true → (inR (σ1.1 34 7) 16 = true → (inR (σ1.1 34 7) 16 = true → (∀ w4 σ3, RCx PRG n 37 [.ref 34, .int x1, .int w2] (s1 (s1 (s1 σ1 37 (σ1.1 34 7).toNatClampNeg x1) 38 (σ1.1 34 7).toNatClampNeg (σ1.1 34 6)) 40 (σ1.1 34 7).toNatClampNeg w2) (some (.int w4)) σ3 → (inR (σ1.1 34 7) 16 = true → (∀ w6 σ5, RCx PRG n 36 [.ref 34, .int x1] (s1 σ3 39 (σ1.1 34 7).toNatClampNeg w4) (some (.int w6)) σ5 → (inR (σ3.1 34 7) 16 = true → (inR (σ5.1 34 7) 16 = true → (((σ5.1 39 (σ5.1 34 7).toNatClampNeg) = (2 : Int32) → (inR (σ5.1 34 6) 4 = true → (inR w2 4 = true → ((((σ5.1 36 (σ5.1 34 6).toNatClampNeg) &&& (σ5.1 9 w2.toNatClampNeg)) = 0 → (inR (σ5.1 34 7) 16 = true → (∀ w15 σ14, RCx PRG n 39 [.ref 34, .int x1] (s1 (s1 σ5 41 (σ3.1 34 7).toNatClampNeg w6) 42 (σ5.1 34 7).toNatClampNeg (0 : Int32)) (some (.int w15)) σ14 → (inR (σ5.1 34 7) 16 = true → (inR (σ14.1 34 6) 4 = true → (∀ σ16, RCx PRG n 11 [.ref 12, .int (σ14.1 36 (σ14.1 34 6).toNatClampNeg)] (s1 σ14 43 (σ5.1 34 7).toNatClampNeg w15) none σ16 → (inR (σ16.1 34 7) 16 = true → (∀ w18 σ17, RCx PRG n 13 [.ref 12, .int (σ16.1 43 (σ16.1 34 7).toNatClampNeg)] σ16 (some (.int w18)) σ17 → (inR (σ16.1 34 7) 16 = true → (inR (σ17.1 34 6) 4 = true → (inR (σ17.1 34 6) 4 = true → (((((σ17.1 34 7) + (1 : Int32)) - ((σ17.1 34 7) + (1 : Int32)) / (4 : Int32) * (4 : Int32)) = 0 → (∀ w20 σ19, RCx PRG n 45 [.ref 34, .int (((σ17.1 34 7) + (1 : Int32)) - (4 : Int32))] (s1 (s1 (s1 σ17 44 (σ16.1 34 7).toNatClampNeg w18) 36 (σ17.1 34 6).toNatClampNeg ((σ17.1 36 (σ17.1 34 6).toNatClampNeg) &&& (((1 : Int32) <<< (x1 &&& 31)) ^^^ (-1 : Int32)))) 34 7 ((σ17.1 34 7) + (1 : Int32))) (some (.int w20)) σ19 → (inR w20 16 = true → (inR ((((σ17.1 34 7) + (1 : Int32)) / (4 : Int32)) - (1 : Int32)) 4 = true → Pl PRG n d 63 262 [(0, .ref 34)] [] (s1 σ19 45 ((((σ17.1 34 7) + (1 : Int32)) / (4 : Int32)) - (1 : Int32)).toNatClampNeg (σ19.1 38 w20.toNatClampNeg)) Q)))) ∧ (¬ (((σ17.1 34 7) + (1 : Int32)) - ((σ17.1 34 7) + (1 : Int32)) / (4 : Int32) * (4 : Int32)) = 0 → Pl PRG n d 63 262 [(0, .ref 34)] [] (s1 (s1 (s1 σ17 44 (σ16.1 34 7).toNatClampNeg w18) 36 (σ17.1 34 6).toNatClampNeg ((σ17.1 36 (σ17.1 34 6).toNatClampNeg) &&& (((1 : Int32) <<< (x1 &&& 31)) ^^^ (-1 : Int32)))) 34 7 ((σ17.1 34 7) + (1 : Int32))) Q))))))))))))) ∧ (¬ ((σ5.1 36 (σ5.1 34 6).toNatClampNeg) &&& (σ5.1 9 w2.toNatClampNeg)) = 0 → (inR (σ5.1 34 7) 16 = true → (∀ w22 σ21, RCx PRG n 39 [.ref 34, .int x1] (s1 (s1 σ5 41 (σ3.1 34 7).toNatClampNeg w6) 42 (σ5.1 34 7).toNatClampNeg (1 : Int32)) (some (.int w22)) σ21 → (inR (σ5.1 34 7) 16 = true → (inR (σ21.1 34 6) 4 = true → (∀ σ23, RCx PRG n 11 [.ref 12, .int (σ21.1 36 (σ21.1 34 6).toNatClampNeg)] (s1 σ21 43 (σ5.1 34 7).toNatClampNeg w22) none σ23 → (inR (σ23.1 34 7) 16 = true → (∀ w25 σ24, RCx PRG n 13 [.ref 12, .int (σ23.1 43 (σ23.1 34 7).toNatClampNeg)] σ23 (some (.int w25)) σ24 → (inR (σ23.1 34 7) 16 = true → (inR (σ24.1 34 6) 4 = true → (inR (σ24.1 34 6) 4 = true → (((((σ24.1 34 7) + (1 : Int32)) - ((σ24.1 34 7) + (1 : Int32)) / (4 : Int32) * (4 : Int32)) = 0 → (∀ w27 σ26, RCx PRG n 45 [.ref 34, .int (((σ24.1 34 7) + (1 : Int32)) - (4 : Int32))] (s1 (s1 (s1 σ24 44 (σ23.1 34 7).toNatClampNeg w25) 36 (σ24.1 34 6).toNatClampNeg ((σ24.1 36 (σ24.1 34 6).toNatClampNeg) &&& (((1 : Int32) <<< (x1 &&& 31)) ^^^ (-1 : Int32)))) 34 7 ((σ24.1 34 7) + (1 : Int32))) (some (.int w27)) σ26 → (inR w27 16 = true → (inR ((((σ24.1 34 7) + (1 : Int32)) / (4 : Int32)) - (1 : Int32)) 4 = true → Pl PRG n d 63 262 [(0, .ref 34)] [] (s1 σ26 45 ((((σ24.1 34 7) + (1 : Int32)) / (4 : Int32)) - (1 : Int32)).toNatClampNeg (σ26.1 38 w27.toNatClampNeg)) Q)))) ∧ (¬ (((σ24.1 34 7) + (1 : Int32)) - ((σ24.1 34 7) + (1 : Int32)) / (4 : Int32) * (4 : Int32)) = 0 → Pl PRG n d 63 262 [(0, .ref 34)] [] (s1 (s1 (s1 σ24 44 (σ23.1 34 7).toNatClampNeg w25) 36 (σ24.1 34 6).toNatClampNeg ((σ24.1 36 (σ24.1 34 6).toNatClampNeg) &&& (((1 : Int32) <<< (x1 &&& 31)) ^^^ (-1 : Int32)))) 34 7 ((σ24.1 34 7) + (1 : Int32))) Q))))))))))))))))) ∧ (¬ (σ5.1 39 (σ5.1 34 7).toNatClampNeg) = (2 : Int32) → (inR (σ5.1 34 7) 16 = true → (∀ w8 σ7, RCx PRG n 39 [.ref 34, .int x1] (s1 (s1 σ5 41 (σ3.1 34 7).toNatClampNeg w6) 42 (σ5.1 34 7).toNatClampNeg (0 : Int32)) (some (.int w8)) σ7 → (inR (σ5.1 34 7) 16 = true → (inR (σ7.1 34 6) 4 = true → (∀ σ9, RCx PRG n 11 [.ref 12, .int (σ7.1 36 (σ7.1 34 6).toNatClampNeg)] (s1 σ7 43 (σ5.1 34 7).toNatClampNeg w8) none σ9 → (inR (σ9.1 34 7) 16 = true → (∀ w11 σ10, RCx PRG n 13 [.ref 12, .int (σ9.1 43 (σ9.1 34 7).toNatClampNeg)] σ9 (some (.int w11)) σ10 → (inR (σ9.1 34 7) 16 = true → (inR (σ10.1 34 6) 4 = true → (inR (σ10.1 34 6) 4 = true → (((((σ10.1 34 7) + (1 : Int32)) - ((σ10.1 34 7) + (1 : Int32)) / (4 : Int32) * (4 : Int32)) = 0 → (∀ w13 σ12, RCx PRG n 45 [.ref 34, .int (((σ10.1 34 7) + (1 : Int32)) - (4 : Int32))] (s1 (s1 (s1 σ10 44 (σ9.1 34 7).toNatClampNeg w11) 36 (σ10.1 34 6).toNatClampNeg ((σ10.1 36 (σ10.1 34 6).toNatClampNeg) &&& (((1 : Int32) <<< (x1 &&& 31)) ^^^ (-1 : Int32)))) 34 7 ((σ10.1 34 7) + (1 : Int32))) (some (.int w13)) σ12 → (inR w13 16 = true → (inR ((((σ10.1 34 7) + (1 : Int32)) / (4 : Int32)) - (1 : Int32)) 4 = true → Pl PRG n d 63 262 [(0, .ref 34)] [] (s1 σ12 45 ((((σ10.1 34 7) + (1 : Int32)) / (4 : Int32)) - (1 : Int32)).toNatClampNeg (σ12.1 38 w13.toNatClampNeg)) Q)))) ∧ (¬ (((σ10.1 34 7) + (1 : Int32)) - ((σ10.1 34 7) + (1 : Int32)) / (4 : Int32) * (4 : Int32)) = 0 → Pl PRG n d 63 262 [(0, .ref 34)] [] (s1 (s1 (s1 σ10 44 (σ9.1 34 7).toNatClampNeg w11) 36 (σ10.1 34 6).toNatClampNeg ((σ10.1 36 (σ10.1 34 6).toNatClampNeg) &&& (((1 : Int32) <<< (x1 &&& 31)) ^^^ (-1 : Int32)))) 34 7 ((σ10.1 34 7) + (1 : Int32))) Q)))))))))))))))))))))))) ∧ (¬ x1 < (16 : Int32) → Pl PRG n d 63 26 [] [] σ Q))))))))) : Pl PRG (n + 1) d 63 0 [(0, .ref 34), (1, .int x1)] [] σ Q := by
  have hM : PRG[63]? = some M_63 := rfl
  refine Pl.br1 (c := (σ.1 34 6) < 0) (a := 26) (b := 7) (ls' := [(0, .ref 34), (1, .int x1)]) (st' := []) (σ' := σ) hM 2 rfl (fun c => ?_) (fun c => ?_)
  · replace h := h.1 c
    exact Pl.live (l' := []) hM lv_63 ⟨show ndL _ from (by decide : List.Nodup ([0, 1] : List Nat)), show ndL _ from (by decide : List.Nodup ([] : List Nat)), by rw [lva_63_26]; exact fun _ h => absurd h List.not_mem_nil⟩ h
  · replace h := h.2 c
    refine Pl.br (c := (16 : Int32) ≤ (σ.1 34 7)) (a := 26) (b := 16) (ls' := [(0, .ref 34), (1, .int x1)]) (st' := []) (σ' := σ) hM 4 rfl (fun c => ?_) (fun c => ?_)
    · replace h := h.1 c
      exact Pl.live (l' := []) hM lv_63 ⟨show ndL _ from (by decide : List.Nodup ([0, 1] : List Nat)), show ndL _ from (by decide : List.Nodup ([] : List Nat)), by rw [lva_63_26]; exact fun _ h => absurd h List.not_mem_nil⟩ h
    · replace h := h.2 c
      refine Pl.br (c := x1 < 0) (a := 26) (b := 20) (ls' := [(0, .ref 34), (1, .int x1)]) (st' := []) (σ' := σ) hM 2 rfl (fun c => ?_) (fun c => ?_)
      · replace h := h.1 c
        exact Pl.live (l' := []) hM lv_63 ⟨show ndL _ from (by decide : List.Nodup ([0, 1] : List Nat)), show ndL _ from (by decide : List.Nodup ([] : List Nat)), by rw [lva_63_26]; exact fun _ h => absurd h List.not_mem_nil⟩ h
      · replace h := h.2 c
        refine Pl.br (c := x1 < (16 : Int32)) (a := 27) (b := 26) (ls' := [(0, .ref 34), (1, .int x1)]) (st' := []) (σ' := σ) hM 3 rfl (fun c => ?_) (fun c => ?_)
        · replace h := h.1 c
          refine Pl.seg (pc' := 28) (ls' := [(0, .ref 34), (1, .int x1)]) (st' := [.ref 34]) (σ' := σ) hM 1 rfl ?_
          refine Pl.weak (Pl.cI hM rfl rfl (by decide) (Mj := M_34) rfl rfl (fun w2 σ1 hw => ?_))
          replace h := h w2 σ1 hw
          refine Pl.seg (pc' := 41) (ls' := [(2, .int w2), (0, .ref 34), (1, .int x1)]) (st' := [.int x1, .int (σ1.1 34 7), .ref 37]) (σ' := σ1) hM 6 rfl ?_
          refine Pl.weak (Pl.iast hM rfl rfl (fun hi => ?_))
          replace h := h hi
          refine Pl.seg (pc' := 54) (ls' := [(2, .int w2), (0, .ref 34), (1, .int x1)]) (st' := [.int (σ1.1 34 6), .int (σ1.1 34 7), .ref 38]) (σ' := (s1 σ1 37 (σ1.1 34 7).toNatClampNeg x1)) hM 6 rfl ?_
          refine Pl.weak (Pl.iast hM rfl rfl (fun hi => ?_))
          replace h := h hi
          refine Pl.seg (pc' := 64) (ls' := [(2, .int w2), (0, .ref 34), (1, .int x1)]) (st' := [.int w2, .int (σ1.1 34 7), .ref 40]) (σ' := (s1 (s1 σ1 37 (σ1.1 34 7).toNatClampNeg x1) 38 (σ1.1 34 7).toNatClampNeg (σ1.1 34 6))) hM 5 rfl ?_
          refine Pl.weak (Pl.iast hM rfl rfl (fun hi => ?_))
          replace h := h hi
          refine Pl.seg (pc' := 76) (ls' := [(2, .int w2), (0, .ref 34), (1, .int x1)]) (st' := [.int w2, .int x1, .ref 34, .int (σ1.1 34 7), .ref 39]) (σ' := (s1 (s1 (s1 σ1 37 (σ1.1 34 7).toNatClampNeg x1) 38 (σ1.1 34 7).toNatClampNeg (σ1.1 34 6)) 40 (σ1.1 34 7).toNatClampNeg w2)) hM 7 rfl ?_
          refine Pl.weak (Pl.cI hM rfl rfl (by decide) (Mj := M_37) rfl rfl (fun w4 σ3 hw => ?_))
          replace h := h w4 σ3 hw
          refine Pl.weak (Pl.iast hM rfl rfl (fun hi => ?_))
          replace h := h hi
          refine Pl.seg (pc' := 90) (ls' := [(2, .int w2), (0, .ref 34), (1, .int x1)]) (st' := [.int x1, .ref 34, .int (σ3.1 34 7), .ref 41]) (σ' := (s1 σ3 39 (σ1.1 34 7).toNatClampNeg w4)) hM 6 rfl ?_
          refine Pl.weak (Pl.cI hM rfl rfl (by decide) (Mj := M_36) rfl rfl (fun w6 σ5 hw => ?_))
          replace h := h w6 σ5 hw
          refine Pl.weak (Pl.iast hM rfl rfl (fun hi => ?_))
          replace h := h hi
          refine Pl.seg (pc' := 110) (ls' := [(2, .int w2), (0, .ref 34), (1, .int x1)]) (st' := [.int (σ5.1 34 7), .ref 39, .int (σ5.1 34 7), .ref 42]) (σ' := (s1 σ5 41 (σ3.1 34 7).toNatClampNeg w6)) hM 8 rfl ?_
          refine Pl.weak (Pl.iald hM rfl rfl (fun hi => ?_))
          replace h := h hi
          refine Pl.brN (c := (σ5.1 39 (σ5.1 34 7).toNatClampNeg) = (2 : Int32)) (a := 141) (b := 115) (ls' := [(2, .int w2), (0, .ref 34), (1, .int x1)]) (st' := [.int (σ5.1 34 7), .ref 42]) (σ' := (s1 σ5 41 (σ3.1 34 7).toNatClampNeg w6)) hM 2 rfl (fun c => ?_) (fun c => ?_)
          · replace h := h.2 c
            refine Pl.seg (pc' := 142) (ls' := [(2, .int w2), (0, .ref 34), (1, .int x1)]) (st' := [.int (0 : Int32), .int (σ5.1 34 7), .ref 42]) (σ' := (s1 σ5 41 (σ3.1 34 7).toNatClampNeg w6)) hM 1 rfl ?_
            refine Pl.weak (Pl.iast hM rfl rfl (fun hi => ?_))
            replace h := h hi
            refine Pl.seg (pc' := 153) (ls' := [(2, .int w2), (0, .ref 34), (1, .int x1)]) (st' := [.int x1, .ref 34, .int (σ5.1 34 7), .ref 43]) (σ' := (s1 (s1 σ5 41 (σ3.1 34 7).toNatClampNeg w6) 42 (σ5.1 34 7).toNatClampNeg (0 : Int32))) hM 6 rfl ?_
            refine Pl.weak (Pl.cI hM rfl rfl (by decide) (Mj := M_39) rfl rfl (fun w8 σ7 hw => ?_))
            replace h := h w8 σ7 hw
            refine Pl.weak (Pl.iast hM rfl rfl (fun hi => ?_))
            replace h := h hi
            refine Pl.seg (pc' := 169) (ls' := [(2, .int w2), (0, .ref 34), (1, .int x1)]) (st' := [.int (σ7.1 34 6), .ref 36, .ref 12]) (σ' := (s1 σ7 43 (σ5.1 34 7).toNatClampNeg w8)) hM 6 rfl ?_
            refine Pl.weak (Pl.iald hM rfl rfl (fun hi => ?_))
            replace h := h hi
            refine Pl.weak (Pl.cV hM rfl rfl (by decide) (Mj := M_11) rfl rfl (fun σ9 hw => ?_))
            replace h := h σ9 hw
            refine Pl.seg (pc' := 193) (ls' := [(2, .int w2), (0, .ref 34), (1, .int x1)]) (st' := [.int (σ9.1 34 7), .ref 43, .ref 12, .int (σ9.1 34 7), .ref 44]) (σ' := σ9) hM 10 rfl ?_
            refine Pl.weak (Pl.iald hM rfl rfl (fun hi => ?_))
            replace h := h hi
            refine Pl.weak (Pl.cI hM rfl rfl (by decide) (Mj := M_13) rfl rfl (fun w11 σ10 hw => ?_))
            replace h := h w11 σ10 hw
            refine Pl.weak (Pl.iast hM rfl rfl (fun hi => ?_))
            replace h := h hi
            refine Pl.seg (pc' := 207) (ls' := [(2, .int w2), (0, .ref 34), (1, .int x1)]) (st' := [.int (σ10.1 34 6), .ref 36, .int (σ10.1 34 6), .ref 36]) (σ' := (s1 σ10 44 (σ9.1 34 7).toNatClampNeg w11)) hM 5 rfl ?_
            refine Pl.weak (Pl.iald hM rfl rfl (fun hi => ?_))
            replace h := h hi
            refine Pl.seg (pc' := 214) (ls' := [(2, .int w2), (0, .ref 34), (1, .int x1)]) (st' := [.int ((σ10.1 36 (σ10.1 34 6).toNatClampNeg) &&& (((1 : Int32) <<< (x1 &&& 31)) ^^^ (-1 : Int32))), .int (σ10.1 34 6), .ref 36]) (σ' := (s1 σ10 44 (σ9.1 34 7).toNatClampNeg w11)) hM 6 rfl ?_
            refine Pl.weak (Pl.iast hM rfl rfl (fun hi => ?_))
            replace h := h hi
            refine Pl.brN (c := (((σ10.1 34 7) + (1 : Int32)) - ((σ10.1 34 7) + (1 : Int32)) / (4 : Int32) * (4 : Int32)) = 0) (a := 262) (b := 234) (ls' := [(2, .int w2), (0, .ref 34), (1, .int x1)]) (st' := []) (σ' := (s1 (s1 (s1 σ10 44 (σ9.1 34 7).toNatClampNeg w11) 36 (σ10.1 34 6).toNatClampNeg ((σ10.1 36 (σ10.1 34 6).toNatClampNeg) &&& (((1 : Int32) <<< (x1 &&& 31)) ^^^ (-1 : Int32)))) 34 7 ((σ10.1 34 7) + (1 : Int32)))) hM 11 rfl (fun c => ?_) (fun c => ?_)
            · replace h := h.2 c
              exact Pl.live (l' := [(0, .ref 34)]) hM lv_63 ⟨show ndL _ from (by decide : List.Nodup ([2, 0, 1] : List Nat)), show ndL _ from (by decide : List.Nodup ([0] : List Nat)), by rw [lva_63_262]; exact List.forall_mem_cons.mpr ⟨rfl, fun _ h => absurd h List.not_mem_nil⟩⟩ h
            · replace h := h.1 c
              refine Pl.seg (pc' := 257) (ls' := [(2, .int w2), (0, .ref 34), (1, .int x1)]) (st' := [.int (((σ10.1 34 7) + (1 : Int32)) - (4 : Int32)), .ref 34, .ref 38, .int ((((σ10.1 34 7) + (1 : Int32)) / (4 : Int32)) - (1 : Int32)), .ref 45]) (σ' := (s1 (s1 (s1 σ10 44 (σ9.1 34 7).toNatClampNeg w11) 36 (σ10.1 34 6).toNatClampNeg ((σ10.1 36 (σ10.1 34 6).toNatClampNeg) &&& (((1 : Int32) <<< (x1 &&& 31)) ^^^ (-1 : Int32)))) 34 7 ((σ10.1 34 7) + (1 : Int32)))) hM 15 rfl ?_
              refine Pl.weak (Pl.cI hM rfl rfl (by decide) (Mj := M_45) rfl rfl (fun w13 σ12 hw => ?_))
              replace h := h w13 σ12 hw
              refine Pl.weak (Pl.iald hM rfl rfl (fun hi => ?_))
              replace h := h hi
              refine Pl.weak (Pl.iast hM rfl rfl (fun hi => ?_))
              replace h := h hi
              exact Pl.live (l' := [(0, .ref 34)]) hM lv_63 ⟨show ndL _ from (by decide : List.Nodup ([2, 0, 1] : List Nat)), show ndL _ from (by decide : List.Nodup ([0] : List Nat)), by rw [lva_63_262]; exact List.forall_mem_cons.mpr ⟨rfl, fun _ h => absurd h List.not_mem_nil⟩⟩ h
          · replace h := h.1 c
            refine Pl.seg (pc' := 123) (ls' := [(2, .int w2), (0, .ref 34), (1, .int x1)]) (st' := [.int (σ5.1 34 6), .ref 36, .int (σ5.1 34 7), .ref 42]) (σ' := (s1 σ5 41 (σ3.1 34 7).toNatClampNeg w6)) hM 4 rfl ?_
            refine Pl.weak (Pl.iald hM rfl rfl (fun hi => ?_))
            replace h := h hi
            refine Pl.seg (pc' := 132) (ls' := [(2, .int w2), (0, .ref 34), (1, .int x1)]) (st' := [.int w2, .ref 9, .int (σ5.1 36 (σ5.1 34 6).toNatClampNeg), .int (σ5.1 34 7), .ref 42]) (σ' := (s1 σ5 41 (σ3.1 34 7).toNatClampNeg w6)) hM 4 rfl ?_
            refine Pl.weak (Pl.iald hM rfl rfl (fun hi => ?_))
            replace h := h hi
            refine Pl.br (c := ((σ5.1 36 (σ5.1 34 6).toNatClampNeg) &&& (σ5.1 9 w2.toNatClampNeg)) = 0) (a := 141) (b := 137) (ls' := [(2, .int w2), (0, .ref 34), (1, .int x1)]) (st' := [.int (σ5.1 34 7), .ref 42]) (σ' := (s1 σ5 41 (σ3.1 34 7).toNatClampNeg w6)) hM 2 rfl (fun c => ?_) (fun c => ?_)
            · replace h := h.1 c
              refine Pl.seg (pc' := 142) (ls' := [(2, .int w2), (0, .ref 34), (1, .int x1)]) (st' := [.int (0 : Int32), .int (σ5.1 34 7), .ref 42]) (σ' := (s1 σ5 41 (σ3.1 34 7).toNatClampNeg w6)) hM 1 rfl ?_
              refine Pl.weak (Pl.iast hM rfl rfl (fun hi => ?_))
              replace h := h hi
              refine Pl.seg (pc' := 153) (ls' := [(2, .int w2), (0, .ref 34), (1, .int x1)]) (st' := [.int x1, .ref 34, .int (σ5.1 34 7), .ref 43]) (σ' := (s1 (s1 σ5 41 (σ3.1 34 7).toNatClampNeg w6) 42 (σ5.1 34 7).toNatClampNeg (0 : Int32))) hM 6 rfl ?_
              refine Pl.weak (Pl.cI hM rfl rfl (by decide) (Mj := M_39) rfl rfl (fun w15 σ14 hw => ?_))
              replace h := h w15 σ14 hw
              refine Pl.weak (Pl.iast hM rfl rfl (fun hi => ?_))
              replace h := h hi
              refine Pl.seg (pc' := 169) (ls' := [(2, .int w2), (0, .ref 34), (1, .int x1)]) (st' := [.int (σ14.1 34 6), .ref 36, .ref 12]) (σ' := (s1 σ14 43 (σ5.1 34 7).toNatClampNeg w15)) hM 6 rfl ?_
              refine Pl.weak (Pl.iald hM rfl rfl (fun hi => ?_))
              replace h := h hi
              refine Pl.weak (Pl.cV hM rfl rfl (by decide) (Mj := M_11) rfl rfl (fun σ16 hw => ?_))
              replace h := h σ16 hw
              refine Pl.seg (pc' := 193) (ls' := [(2, .int w2), (0, .ref 34), (1, .int x1)]) (st' := [.int (σ16.1 34 7), .ref 43, .ref 12, .int (σ16.1 34 7), .ref 44]) (σ' := σ16) hM 10 rfl ?_
              refine Pl.weak (Pl.iald hM rfl rfl (fun hi => ?_))
              replace h := h hi
              refine Pl.weak (Pl.cI hM rfl rfl (by decide) (Mj := M_13) rfl rfl (fun w18 σ17 hw => ?_))
              replace h := h w18 σ17 hw
              refine Pl.weak (Pl.iast hM rfl rfl (fun hi => ?_))
              replace h := h hi
              refine Pl.seg (pc' := 207) (ls' := [(2, .int w2), (0, .ref 34), (1, .int x1)]) (st' := [.int (σ17.1 34 6), .ref 36, .int (σ17.1 34 6), .ref 36]) (σ' := (s1 σ17 44 (σ16.1 34 7).toNatClampNeg w18)) hM 5 rfl ?_
              refine Pl.weak (Pl.iald hM rfl rfl (fun hi => ?_))
              replace h := h hi
              refine Pl.seg (pc' := 214) (ls' := [(2, .int w2), (0, .ref 34), (1, .int x1)]) (st' := [.int ((σ17.1 36 (σ17.1 34 6).toNatClampNeg) &&& (((1 : Int32) <<< (x1 &&& 31)) ^^^ (-1 : Int32))), .int (σ17.1 34 6), .ref 36]) (σ' := (s1 σ17 44 (σ16.1 34 7).toNatClampNeg w18)) hM 6 rfl ?_
              refine Pl.weak (Pl.iast hM rfl rfl (fun hi => ?_))
              replace h := h hi
              refine Pl.brN (c := (((σ17.1 34 7) + (1 : Int32)) - ((σ17.1 34 7) + (1 : Int32)) / (4 : Int32) * (4 : Int32)) = 0) (a := 262) (b := 234) (ls' := [(2, .int w2), (0, .ref 34), (1, .int x1)]) (st' := []) (σ' := (s1 (s1 (s1 σ17 44 (σ16.1 34 7).toNatClampNeg w18) 36 (σ17.1 34 6).toNatClampNeg ((σ17.1 36 (σ17.1 34 6).toNatClampNeg) &&& (((1 : Int32) <<< (x1 &&& 31)) ^^^ (-1 : Int32)))) 34 7 ((σ17.1 34 7) + (1 : Int32)))) hM 11 rfl (fun c => ?_) (fun c => ?_)
              · replace h := h.2 c
                exact Pl.live (l' := [(0, .ref 34)]) hM lv_63 ⟨show ndL _ from (by decide : List.Nodup ([2, 0, 1] : List Nat)), show ndL _ from (by decide : List.Nodup ([0] : List Nat)), by rw [lva_63_262]; exact List.forall_mem_cons.mpr ⟨rfl, fun _ h => absurd h List.not_mem_nil⟩⟩ h
              · replace h := h.1 c
                refine Pl.seg (pc' := 257) (ls' := [(2, .int w2), (0, .ref 34), (1, .int x1)]) (st' := [.int (((σ17.1 34 7) + (1 : Int32)) - (4 : Int32)), .ref 34, .ref 38, .int ((((σ17.1 34 7) + (1 : Int32)) / (4 : Int32)) - (1 : Int32)), .ref 45]) (σ' := (s1 (s1 (s1 σ17 44 (σ16.1 34 7).toNatClampNeg w18) 36 (σ17.1 34 6).toNatClampNeg ((σ17.1 36 (σ17.1 34 6).toNatClampNeg) &&& (((1 : Int32) <<< (x1 &&& 31)) ^^^ (-1 : Int32)))) 34 7 ((σ17.1 34 7) + (1 : Int32)))) hM 15 rfl ?_
                refine Pl.weak (Pl.cI hM rfl rfl (by decide) (Mj := M_45) rfl rfl (fun w20 σ19 hw => ?_))
                replace h := h w20 σ19 hw
                refine Pl.weak (Pl.iald hM rfl rfl (fun hi => ?_))
                replace h := h hi
                refine Pl.weak (Pl.iast hM rfl rfl (fun hi => ?_))
                replace h := h hi
                exact Pl.live (l' := [(0, .ref 34)]) hM lv_63 ⟨show ndL _ from (by decide : List.Nodup ([2, 0, 1] : List Nat)), show ndL _ from (by decide : List.Nodup ([0] : List Nat)), by rw [lva_63_262]; exact List.forall_mem_cons.mpr ⟨rfl, fun _ h => absurd h List.not_mem_nil⟩⟩ h
            · replace h := h.2 c
              refine Pl.seg (pc' := 142) (ls' := [(2, .int w2), (0, .ref 34), (1, .int x1)]) (st' := [.int (1 : Int32), .int (σ5.1 34 7), .ref 42]) (σ' := (s1 σ5 41 (σ3.1 34 7).toNatClampNeg w6)) hM 2 rfl ?_
              refine Pl.weak (Pl.iast hM rfl rfl (fun hi => ?_))
              replace h := h hi
              refine Pl.seg (pc' := 153) (ls' := [(2, .int w2), (0, .ref 34), (1, .int x1)]) (st' := [.int x1, .ref 34, .int (σ5.1 34 7), .ref 43]) (σ' := (s1 (s1 σ5 41 (σ3.1 34 7).toNatClampNeg w6) 42 (σ5.1 34 7).toNatClampNeg (1 : Int32))) hM 6 rfl ?_
              refine Pl.weak (Pl.cI hM rfl rfl (by decide) (Mj := M_39) rfl rfl (fun w22 σ21 hw => ?_))
              replace h := h w22 σ21 hw
              refine Pl.weak (Pl.iast hM rfl rfl (fun hi => ?_))
              replace h := h hi
              refine Pl.seg (pc' := 169) (ls' := [(2, .int w2), (0, .ref 34), (1, .int x1)]) (st' := [.int (σ21.1 34 6), .ref 36, .ref 12]) (σ' := (s1 σ21 43 (σ5.1 34 7).toNatClampNeg w22)) hM 6 rfl ?_
              refine Pl.weak (Pl.iald hM rfl rfl (fun hi => ?_))
              replace h := h hi
              refine Pl.weak (Pl.cV hM rfl rfl (by decide) (Mj := M_11) rfl rfl (fun σ23 hw => ?_))
              replace h := h σ23 hw
              refine Pl.seg (pc' := 193) (ls' := [(2, .int w2), (0, .ref 34), (1, .int x1)]) (st' := [.int (σ23.1 34 7), .ref 43, .ref 12, .int (σ23.1 34 7), .ref 44]) (σ' := σ23) hM 10 rfl ?_
              refine Pl.weak (Pl.iald hM rfl rfl (fun hi => ?_))
              replace h := h hi
              refine Pl.weak (Pl.cI hM rfl rfl (by decide) (Mj := M_13) rfl rfl (fun w25 σ24 hw => ?_))
              replace h := h w25 σ24 hw
              refine Pl.weak (Pl.iast hM rfl rfl (fun hi => ?_))
              replace h := h hi
              refine Pl.seg (pc' := 207) (ls' := [(2, .int w2), (0, .ref 34), (1, .int x1)]) (st' := [.int (σ24.1 34 6), .ref 36, .int (σ24.1 34 6), .ref 36]) (σ' := (s1 σ24 44 (σ23.1 34 7).toNatClampNeg w25)) hM 5 rfl ?_
              refine Pl.weak (Pl.iald hM rfl rfl (fun hi => ?_))
              replace h := h hi
              refine Pl.seg (pc' := 214) (ls' := [(2, .int w2), (0, .ref 34), (1, .int x1)]) (st' := [.int ((σ24.1 36 (σ24.1 34 6).toNatClampNeg) &&& (((1 : Int32) <<< (x1 &&& 31)) ^^^ (-1 : Int32))), .int (σ24.1 34 6), .ref 36]) (σ' := (s1 σ24 44 (σ23.1 34 7).toNatClampNeg w25)) hM 6 rfl ?_
              refine Pl.weak (Pl.iast hM rfl rfl (fun hi => ?_))
              replace h := h hi
              refine Pl.brN (c := (((σ24.1 34 7) + (1 : Int32)) - ((σ24.1 34 7) + (1 : Int32)) / (4 : Int32) * (4 : Int32)) = 0) (a := 262) (b := 234) (ls' := [(2, .int w2), (0, .ref 34), (1, .int x1)]) (st' := []) (σ' := (s1 (s1 (s1 σ24 44 (σ23.1 34 7).toNatClampNeg w25) 36 (σ24.1 34 6).toNatClampNeg ((σ24.1 36 (σ24.1 34 6).toNatClampNeg) &&& (((1 : Int32) <<< (x1 &&& 31)) ^^^ (-1 : Int32)))) 34 7 ((σ24.1 34 7) + (1 : Int32)))) hM 11 rfl (fun c => ?_) (fun c => ?_)
              · replace h := h.2 c
                exact Pl.live (l' := [(0, .ref 34)]) hM lv_63 ⟨show ndL _ from (by decide : List.Nodup ([2, 0, 1] : List Nat)), show ndL _ from (by decide : List.Nodup ([0] : List Nat)), by rw [lva_63_262]; exact List.forall_mem_cons.mpr ⟨rfl, fun _ h => absurd h List.not_mem_nil⟩⟩ h
              · replace h := h.1 c
                refine Pl.seg (pc' := 257) (ls' := [(2, .int w2), (0, .ref 34), (1, .int x1)]) (st' := [.int (((σ24.1 34 7) + (1 : Int32)) - (4 : Int32)), .ref 34, .ref 38, .int ((((σ24.1 34 7) + (1 : Int32)) / (4 : Int32)) - (1 : Int32)), .ref 45]) (σ' := (s1 (s1 (s1 σ24 44 (σ23.1 34 7).toNatClampNeg w25) 36 (σ24.1 34 6).toNatClampNeg ((σ24.1 36 (σ24.1 34 6).toNatClampNeg) &&& (((1 : Int32) <<< (x1 &&& 31)) ^^^ (-1 : Int32)))) 34 7 ((σ24.1 34 7) + (1 : Int32)))) hM 15 rfl ?_
                refine Pl.weak (Pl.cI hM rfl rfl (by decide) (Mj := M_45) rfl rfl (fun w27 σ26 hw => ?_))
                replace h := h w27 σ26 hw
                refine Pl.weak (Pl.iald hM rfl rfl (fun hi => ?_))
                replace h := h hi
                refine Pl.weak (Pl.iast hM rfl rfl (fun hi => ?_))
                replace h := h hi
                exact Pl.live (l' := [(0, .ref 34)]) hM lv_63 ⟨show ndL _ from (by decide : List.Nodup ([2, 0, 1] : List Nat)), show ndL _ from (by decide : List.Nodup ([0] : List Nat)), by rw [lva_63_262]; exact List.forall_mem_cons.mpr ⟨rfl, fun _ h => absurd h List.not_mem_nil⟩⟩ h
        · replace h := h.2 c
          exact Pl.live (l' := []) hM lv_63 ⟨show ndL _ from (by decide : List.Nodup ([0, 1] : List Nat)), show ndL _ from (by decide : List.Nodup ([] : List Nat)), by rw [lva_63_26]; exact fun _ h => absurd h List.not_mem_nil⟩ h
set_option maxRecDepth 100000 in
theorem p_63_b34_26 {n d : Nat} {Q : Option Value → Sg → Prop} (σ : Sg) (h : Q none σ) : Pl PRG (n + 1) d 63 26 [] [] σ Q := by
  have hM : PRG[63]? = some M_63 := rfl
  refine Pl.ret hM rfl rfl h
set_option maxRecDepth 100000 in
theorem p_63_b34_262 {n d : Nat} {Q : Option Value → Sg → Prop} (σ : Sg) (h : (∀ w2 σ1, RCx PRG n 62 [.ref 34] σ (some (.int w2)) σ1 → Q none (s1 (s1 σ1 34 6 w2) 34 17 ((σ1.1 34 17) + (1 : Int32))))) : Pl PRG (n + 1) d 63 262 [(0, .ref 34)] [] σ Q := by
  have hM : PRG[63]? = some M_63 := rfl
  refine Pl.sg1 (pc' := 264) (ls' := [(0, .ref 34)]) (st' := [.ref 34, .ref 34]) (σ' := σ) hM 1 rfl ?_
  refine Pl.weak (Pl.cI hM rfl rfl (by decide) (Mj := M_62) rfl rfl (fun w2 σ1 hw => ?_))
  replace h := h w2 σ1 hw
  refine Pl.seg (pc' := 280) (ls' := [(0, .ref 34)]) (st' := []) (σ' := (s1 (s1 σ1 34 6 w2) 34 17 ((σ1.1 34 17) + (1 : Int32)))) hM 7 rfl ?_
  refine Pl.weak (Pl.ret hM rfl rfl h)
set_option maxRecDepth 100000 in
theorem p_34_b34_0 {n d : Nat} {Q : Option Value → Sg → Prop} (σ : Sg) (h : (((σ.1 34 7) ≤ ((σ.1 34 7) - ((σ.1 34 7) - (σ.1 34 7) / (4 : Int32) * (4 : Int32))) → Q (some (.int (-1 : Int32))) σ) ∧ (¬ (σ.1 34 7) ≤ ((σ.1 34 7) - ((σ.1 34 7) - (σ.1 34 7) / (4 : Int32) * (4 : Int32))) → (inR ((σ.1 34 7) - ((σ.1 34 7) - (σ.1 34 7) / (4 : Int32) * (4 : Int32))) 16 = true → (inR (σ.1 37 ((σ.1 34 7) - ((σ.1 34 7) - (σ.1 34 7) / (4 : Int32) * (4 : Int32))).toNatClampNeg) 16 = true → Q (some (.int (σ.1 10 (σ.1 37 ((σ.1 34 7) - ((σ.1 34 7) - (σ.1 34 7) / (4 : Int32) * (4 : Int32))).toNatClampNeg).toNatClampNeg))) σ))))) : Pl PRG (n + 1) d 34 0 [(0, .ref 34)] [] σ Q := by
  have hM : PRG[34]? = some M_34 := rfl
  refine Pl.br1 (c := (σ.1 34 7) ≤ ((σ.1 34 7) - ((σ.1 34 7) - (σ.1 34 7) / (4 : Int32) * (4 : Int32)))) (a := 37) (b := 20) (ls' := [(1, .int ((σ.1 34 7) - ((σ.1 34 7) - (σ.1 34 7) / (4 : Int32) * (4 : Int32)))), (0, .ref 34)]) (st' := []) (σ' := σ) hM 11 rfl (fun c => ?_) (fun c => ?_)
  · replace h := h.1 c
    refine Pl.seg (pc' := 38) (ls' := [(1, .int ((σ.1 34 7) - ((σ.1 34 7) - (σ.1 34 7) / (4 : Int32) * (4 : Int32)))), (0, .ref 34)]) (st' := [.int (-1 : Int32)]) (σ' := σ) hM 1 rfl ?_
    refine Pl.weak (Pl.ret hM rfl rfl h)
  · replace h := h.2 c
    refine Pl.seg (pc' := 32) (ls' := [(1, .int ((σ.1 34 7) - ((σ.1 34 7) - (σ.1 34 7) / (4 : Int32) * (4 : Int32)))), (0, .ref 34)]) (st' := [.int ((σ.1 34 7) - ((σ.1 34 7) - (σ.1 34 7) / (4 : Int32) * (4 : Int32))), .ref 37, .ref 10]) (σ' := σ) hM 6 rfl ?_
    refine Pl.weak (Pl.iald hM rfl rfl (fun hi => ?_))
    replace h := h hi
    refine Pl.weak (Pl.iald hM rfl rfl (fun hi => ?_))
    replace h := h hi
    refine Pl.seg (pc' := 38) (ls' := [(1, .int ((σ.1 34 7) - ((σ.1 34 7) - (σ.1 34 7) / (4 : Int32) * (4 : Int32)))), (0, .ref 34)]) (st' := [.int (σ.1 10 (σ.1 37 ((σ.1 34 7) - ((σ.1 34 7) - (σ.1 34 7) / (4 : Int32) * (4 : Int32))).toNatClampNeg).toNatClampNeg)]) (σ' := σ) hM 1 rfl ?_
    refine Pl.weak (Pl.ret hM rfl rfl h)
set_option maxRecDepth 100000 in
theorem p_37_b34_0 {n d : Nat} {Q : Option Value → Sg → Prop} (σ : Sg) (x1 x2 : Int32) (h : ((0 ≤ x2 → (inR x1 16 = true → (((σ.1 10 x1.toNatClampNeg) = x2 → Q (some (.int (1 : Int32))) σ) ∧ (¬ (σ.1 10 x1.toNatClampNeg) = x2 → Q (some (.int (2 : Int32))) σ)))) ∧ (¬ 0 ≤ x2 → Q (some (.int (0 : Int32))) σ))) : Pl PRG (n + 1) d 37 0 [(0, .ref 34), (1, .int x1), (2, .int x2)] [] σ Q := by
  have hM : PRG[37]? = some M_37 := rfl
  refine Pl.br1 (c := 0 ≤ x2) (a := 6) (b := 4) (ls' := [(0, .ref 34), (1, .int x1), (2, .int x2)]) (st' := []) (σ' := σ) hM 1 rfl (fun c => ?_) (fun c => ?_)
  · replace h := h.1 c
    refine Pl.seg (pc' := 14) (ls' := [(0, .ref 34), (1, .int x1), (2, .int x2)]) (st' := [.int x1, .ref 10]) (σ' := σ) hM 4 rfl ?_
    refine Pl.weak (Pl.iald hM rfl rfl (fun hi => ?_))
    replace h := h hi
    refine Pl.brN (c := (σ.1 10 x1.toNatClampNeg) = x2) (a := 23) (b := 19) (ls' := [(0, .ref 34), (1, .int x1), (2, .int x2)]) (st' := []) (σ' := σ) hM 2 rfl (fun c => ?_) (fun c => ?_)
    · replace h := h.2 c
      refine Pl.seg (pc' := 24) (ls' := [(0, .ref 34), (1, .int x1), (2, .int x2)]) (st' := [.int (2 : Int32)]) (σ' := σ) hM 1 rfl ?_
      refine Pl.weak (Pl.ret hM rfl rfl h)
    · replace h := h.1 c
      refine Pl.seg (pc' := 24) (ls' := [(0, .ref 34), (1, .int x1), (2, .int x2)]) (st' := [.int (1 : Int32)]) (σ' := σ) hM 2 rfl ?_
      refine Pl.weak (Pl.ret hM rfl rfl h)
  · replace h := h.2 c
    refine Pl.seg (pc' := 5) (ls' := [(0, .ref 34), (1, .int x1), (2, .int x2)]) (st' := [.int (0 : Int32)]) (σ' := σ) hM 1 rfl ?_
    refine Pl.weak (Pl.ret hM rfl rfl h)
set_option maxRecDepth 100000 in
theorem p_36_b34_0 {n d : Nat} {Q : Option Value → Sg → Prop} (σ : Sg) (x1 : Int32) (h : Pl PRG n d 36 7 [(0, .ref 34), (1, .int x1), (2, .int ((σ.1 34 7) - (1 : Int32)))] [] σ Q) : Pl PRG (n + 1) d 36 0 [(0, .ref 34), (1, .int x1)] [] σ Q := by
  have hM : PRG[36]? = some M_36 := rfl
  refine Pl.sg1 (pc' := 7) (ls' := [(2, .int ((σ.1 34 7) - (1 : Int32))), (0, .ref 34), (1, .int x1)]) (st' := []) (σ' := σ) hM 4 rfl ?_
  exact Pl.live (l' := [(0, .ref 34), (1, .int x1), (2, .int ((σ.1 34 7) - (1 : Int32)))]) hM lv_36 ⟨show ndL _ from (by decide : List.Nodup ([2, 0, 1] : List Nat)), show ndL _ from (by decide : List.Nodup ([0, 1, 2] : List Nat)), by rw [lva_36_7]; exact List.forall_mem_cons.mpr ⟨rfl, List.forall_mem_cons.mpr ⟨rfl, List.forall_mem_cons.mpr ⟨rfl, fun _ h => absurd h List.not_mem_nil⟩⟩⟩⟩ h
set_option maxRecDepth 100000 in
theorem p_36_b34_7 {n d : Nat} {Q : Option Value → Sg → Prop} (σ : Sg) (x1 x2 : Int32) (h : ((x2 < 0 → Q (some (.int (-1 : Int32))) σ) ∧ (¬ x2 < 0 → (inR x2 16 = true → (((σ.1 38 x2.toNatClampNeg) = (σ.1 34 6) → (inR x2 16 = true → (inR (σ.1 37 x2.toNatClampNeg) 16 = true → (inR x1 16 = true → (((σ.1 10 (σ.1 37 x2.toNatClampNeg).toNatClampNeg) = (σ.1 10 x1.toNatClampNeg) → (inR x2 16 = true → (∀ w2 σ1, RCx PRG n 9 [.ref 3, .int (σ.1 37 x2.toNatClampNeg)] σ (some (.int w2)) σ1 → Q (some (.int w2)) σ1))) ∧ (¬ (σ.1 10 (σ.1 37 x2.toNatClampNeg).toNatClampNeg) = (σ.1 10 x1.toNatClampNeg) → Pl PRG n d 36 64 [(0, .ref 34), (1, .int x1), (2, .int x2)] [] σ Q)))))) ∧ (¬ (σ.1 38 x2.toNatClampNeg) = (σ.1 34 6) → Pl PRG n d 36 64 [(0, .ref 34), (1, .int x1), (2, .int x2)] [] σ Q)))))) : Pl PRG (n + 1) d 36 7 [(0, .ref 34), (1, .int x1), (2, .int x2)] [] σ Q := by
  have hM : PRG[36]? = some M_36 := rfl
  refine Pl.br1 (c := x2 < 0) (a := 70) (b := 11) (ls' := [(0, .ref 34), (1, .int x1), (2, .int x2)]) (st' := []) (σ' := σ) hM 1 rfl (fun c => ?_) (fun c => ?_)
  · replace h := h.1 c
    refine Pl.seg (pc' := 71) (ls' := [(0, .ref 34), (1, .int x1), (2, .int x2)]) (st' := [.int (-1 : Int32)]) (σ' := σ) hM 1 rfl ?_
    refine Pl.weak (Pl.ret hM rfl rfl h)
  · replace h := h.2 c
    refine Pl.seg (pc' := 16) (ls' := [(0, .ref 34), (1, .int x1), (2, .int x2)]) (st' := [.int x2, .ref 38]) (σ' := σ) hM 3 rfl ?_
    refine Pl.weak (Pl.iald hM rfl rfl (fun hi => ?_))
    replace h := h hi
    refine Pl.brN (c := (σ.1 38 x2.toNatClampNeg) = (σ.1 34 6)) (a := 64) (b := 24) (ls' := [(0, .ref 34), (1, .int x1), (2, .int x2)]) (st' := []) (σ' := σ) hM 3 rfl (fun c => ?_) (fun c => ?_)
    · replace h := h.2 c
      exact Pl.live (l' := [(0, .ref 34), (1, .int x1), (2, .int x2)]) hM lv_36 ⟨show ndL _ from (by decide : List.Nodup ([0, 1, 2] : List Nat)), show ndL _ from (by decide : List.Nodup ([0, 1, 2] : List Nat)), by rw [lva_36_64]; exact List.forall_mem_cons.mpr ⟨rfl, List.forall_mem_cons.mpr ⟨rfl, List.forall_mem_cons.mpr ⟨rfl, fun _ h => absurd h List.not_mem_nil⟩⟩⟩⟩ h
    · replace h := h.1 c
      refine Pl.seg (pc' := 36) (ls' := [(0, .ref 34), (1, .int x1), (2, .int x2)]) (st' := [.int x2, .ref 37, .ref 10]) (σ' := σ) hM 6 rfl ?_
      refine Pl.weak (Pl.iald hM rfl rfl (fun hi => ?_))
      replace h := h hi
      refine Pl.weak (Pl.iald hM rfl rfl (fun hi => ?_))
      replace h := h hi
      refine Pl.seg (pc' := 46) (ls' := [(0, .ref 34), (1, .int x1), (2, .int x2)]) (st' := [.int x1, .ref 10, .int (σ.1 10 (σ.1 37 x2.toNatClampNeg).toNatClampNeg)]) (σ' := σ) hM 4 rfl ?_
      refine Pl.weak (Pl.iald hM rfl rfl (fun hi => ?_))
      replace h := h hi
      refine Pl.brN (c := (σ.1 10 (σ.1 37 x2.toNatClampNeg).toNatClampNeg) = (σ.1 10 x1.toNatClampNeg)) (a := 64) (b := 50) (ls' := [(0, .ref 34), (1, .int x1), (2, .int x2)]) (st' := []) (σ' := σ) hM 1 rfl (fun c => ?_) (fun c => ?_)
      · replace h := h.2 c
        exact Pl.live (l' := [(0, .ref 34), (1, .int x1), (2, .int x2)]) hM lv_36 ⟨show ndL _ from (by decide : List.Nodup ([0, 1, 2] : List Nat)), show ndL _ from (by decide : List.Nodup ([0, 1, 2] : List Nat)), by rw [lva_36_64]; exact List.forall_mem_cons.mpr ⟨rfl, List.forall_mem_cons.mpr ⟨rfl, List.forall_mem_cons.mpr ⟨rfl, fun _ h => absurd h List.not_mem_nil⟩⟩⟩⟩ h
      · replace h := h.1 c
        refine Pl.seg (pc' := 59) (ls' := [(0, .ref 34), (1, .int x1), (2, .int x2)]) (st' := [.int x2, .ref 37, .ref 3]) (σ' := σ) hM 5 rfl ?_
        refine Pl.weak (Pl.iald hM rfl rfl (fun hi => ?_))
        replace h := h hi
        refine Pl.weak (Pl.cI hM rfl rfl (by decide) (Mj := M_9) rfl rfl (fun w2 σ1 hw => ?_))
        replace h := h w2 σ1 hw
        refine Pl.weak (Pl.ret hM rfl rfl h)
set_option maxRecDepth 100000 in
theorem p_36_b34_64 {n d : Nat} {Q : Option Value → Sg → Prop} (σ : Sg) (x1 x2 : Int32) (h : Pl PRG n d 36 7 [(0, .ref 34), (1, .int x1), (2, .int (x2 + (-1 : Int32)))] [] σ Q) : Pl PRG (n + 1) d 36 64 [(0, .ref 34), (1, .int x1), (2, .int x2)] [] σ Q := by
  have hM : PRG[36]? = some M_36 := rfl
  refine Pl.sg1 (pc' := 7) (ls' := [(2, .int (x2 + (-1 : Int32))), (0, .ref 34), (1, .int x1)]) (st' := []) (σ' := σ) hM 1 rfl ?_
  exact Pl.live (l' := [(0, .ref 34), (1, .int x1), (2, .int (x2 + (-1 : Int32)))]) hM lv_36 ⟨show ndL _ from (by decide : List.Nodup ([2, 0, 1] : List Nat)), show ndL _ from (by decide : List.Nodup ([0, 1, 2] : List Nat)), by rw [lva_36_7]; exact List.forall_mem_cons.mpr ⟨rfl, List.forall_mem_cons.mpr ⟨rfl, List.forall_mem_cons.mpr ⟨rfl, fun _ h => absurd h List.not_mem_nil⟩⟩⟩⟩ h
set_option maxRecDepth 100000 in
theorem p_39_b34_0 {n d : Nat} {Q : Option Value → Sg → Prop} (σ : Sg) (x1 : Int32) (h : (∀ w2 σ1, RCx PRG n 34 [.ref 34] σ (some (.int w2)) σ1 → (∀ w4 σ3, RCx PRG n 36 [.ref 34, .int x1] σ1 (some (.int w4)) σ3 → (∀ σ5, RCx PRG n 10 [.ref 12, .int x1, .int w2, .int ((σ1.1 34 7) / (4 : Int32)), .int w4] σ3 none σ5 → (∀ w7 σ6, RCx PRG n 37 [.ref 34, .int x1, .int w2] σ5 (some (.int w7)) σ6 → (∀ w9 σ8, RCx PRG n 38 [.ref 12, .int w7, .int ((σ6.1 34 6) &&& (1 : Int32))] σ6 (some (.int w9)) σ8 → Q (some (.int w9)) σ8)))))) : Pl PRG (n + 1) d 39 0 [(0, .ref 34), (1, .int x1)] [] σ Q := by
  have hM : PRG[39]? = some M_39 := rfl
  refine Pl.sg1 (pc' := 1) (ls' := [(0, .ref 34), (1, .int x1)]) (st' := [.ref 34]) (σ' := σ) hM 0 rfl ?_
  refine Pl.weak (Pl.cI hM rfl rfl (by decide) (Mj := M_34) rfl rfl (fun w2 σ1 hw => ?_))
  replace h := h w2 σ1 hw
  refine Pl.seg (pc' := 19) (ls' := [(2, .int w2), (0, .ref 34), (1, .int x1)]) (st' := [.int x1, .ref 34, .int ((σ1.1 34 7) / (4 : Int32)), .int w2, .int x1, .ref 12]) (σ' := σ1) hM 11 rfl ?_
  refine Pl.weak (Pl.cI hM rfl rfl (by decide) (Mj := M_36) rfl rfl (fun w4 σ3 hw => ?_))
  replace h := h w4 σ3 hw
  refine Pl.weak (Pl.cV hM rfl rfl (by decide) (Mj := M_10) rfl rfl (fun σ5 hw => ?_))
  replace h := h σ5 hw
  refine Pl.seg (pc' := 32) (ls' := [(2, .int w2), (0, .ref 34), (1, .int x1)]) (st' := [.int w2, .int x1, .ref 34, .ref 12]) (σ' := σ5) hM 5 rfl ?_
  refine Pl.weak (Pl.cI hM rfl rfl (by decide) (Mj := M_37) rfl rfl (fun w7 σ6 hw => ?_))
  replace h := h w7 σ6 hw
  refine Pl.seg (pc' := 41) (ls' := [(2, .int w2), (0, .ref 34), (1, .int x1)]) (st' := [.int ((σ6.1 34 6) &&& (1 : Int32)), .int w7, .ref 12]) (σ' := σ6) hM 4 rfl ?_
  refine Pl.weak (Pl.cI hM rfl rfl (by decide) (Mj := M_38) rfl rfl (fun w9 σ8 hw => ?_))
  replace h := h w9 σ8 hw
  refine Pl.weak (Pl.ret hM rfl rfl h)
set_option maxRecDepth 100000 in
theorem p_45_b34_0 {n d : Nat} {Q : Option Value → Sg → Prop} (σ : Sg) (x1 : Int32) (h : Pl PRG n d 45 6 [(0, .ref 34), (1, .int x1), (2, .int x1), (3, .int (x1 + (1 : Int32)))] [] σ Q) : Pl PRG (n + 1) d 45 0 [(0, .ref 34), (1, .int x1)] [] σ Q := by
  have hM : PRG[45]? = some M_45 := rfl
  refine Pl.sg1 (pc' := 6) (ls' := [(3, .int (x1 + (1 : Int32))), (2, .int x1), (0, .ref 34), (1, .int x1)]) (st' := []) (σ' := σ) hM 5 rfl ?_
  exact Pl.live (l' := [(0, .ref 34), (1, .int x1), (2, .int x1), (3, .int (x1 + (1 : Int32)))]) hM lv_45 ⟨show ndL _ from (by decide : List.Nodup ([3, 2, 0, 1] : List Nat)), show ndL _ from (by decide : List.Nodup ([0, 1, 2, 3] : List Nat)), by rw [lva_45_6]; exact List.forall_mem_cons.mpr ⟨rfl, List.forall_mem_cons.mpr ⟨rfl, List.forall_mem_cons.mpr ⟨rfl, List.forall_mem_cons.mpr ⟨rfl, fun _ h => absurd h List.not_mem_nil⟩⟩⟩⟩⟩ h
set_option maxRecDepth 100000 in
theorem p_45_b34_6 {n d : Nat} {Q : Option Value → Sg → Prop} (σ : Sg) (x1 x2 x3 : Int32) (h : (((σ.1 34 7) ≤ x3 → Pl PRG n d 45 106 [(2, .int x2)] [] σ Q) ∧ (¬ (σ.1 34 7) ≤ x3 → (((x1 + (4 : Int32)) ≤ x3 → Pl PRG n d 45 106 [(2, .int x2)] [] σ Q) ∧ (¬ (x1 + (4 : Int32)) ≤ x3 → (inR x3 16 = true → (inR (σ.1 37 x3.toNatClampNeg) 16 = true → (inR x2 16 = true → (inR (σ.1 37 x2.toNatClampNeg) 16 = true → (((σ.1 10 (σ.1 37 x3.toNatClampNeg).toNatClampNeg) = (σ.1 10 (σ.1 37 x2.toNatClampNeg).toNatClampNeg) → (inR x3 16 = true → (inR x2 16 = true → (((σ.1 37 x3.toNatClampNeg) ≤ (σ.1 37 x2.toNatClampNeg) → Pl PRG n d 45 100 [(0, .ref 34), (1, .int x1), (2, .int x2), (3, .int x3)] [] σ Q) ∧ (¬ (σ.1 37 x3.toNatClampNeg) ≤ (σ.1 37 x2.toNatClampNeg) → Pl PRG n d 45 98 [(0, .ref 34), (1, .int x1), (3, .int x3)] [] σ Q))))) ∧ (¬ (σ.1 10 (σ.1 37 x3.toNatClampNeg).toNatClampNeg) = (σ.1 10 (σ.1 37 x2.toNatClampNeg).toNatClampNeg) → (((σ.1 10 (σ.1 37 x3.toNatClampNeg).toNatClampNeg) = (σ.1 3 2) → Pl PRG n d 45 98 [(0, .ref 34), (1, .int x1), (3, .int x3)] [] σ Q) ∧ (¬ (σ.1 10 (σ.1 37 x3.toNatClampNeg).toNatClampNeg) = (σ.1 3 2) → Pl PRG n d 45 100 [(0, .ref 34), (1, .int x1), (2, .int x2), (3, .int x3)] [] σ Q))))))))))))) : Pl PRG (n + 1) d 45 6 [(0, .ref 34), (1, .int x1), (2, .int x2), (3, .int x3)] [] σ Q := by
  have hM : PRG[45]? = some M_45 := rfl
  refine Pl.br1 (c := (σ.1 34 7) ≤ x3) (a := 106) (b := 14) (ls' := [(0, .ref 34), (1, .int x1), (2, .int x2), (3, .int x3)]) (st' := []) (σ' := σ) hM 3 rfl (fun c => ?_) (fun c => ?_)
  · replace h := h.1 c
    exact Pl.live (l' := [(2, .int x2)]) hM lv_45 ⟨show ndL _ from (by decide : List.Nodup ([0, 1, 2, 3] : List Nat)), show ndL _ from (by decide : List.Nodup ([2] : List Nat)), by rw [lva_45_106]; exact List.forall_mem_cons.mpr ⟨rfl, fun _ h => absurd h List.not_mem_nil⟩⟩ h
  · replace h := h.2 c
    refine Pl.br (c := (x1 + (4 : Int32)) ≤ x3) (a := 106) (b := 21) (ls' := [(0, .ref 34), (1, .int x1), (2, .int x2), (3, .int x3)]) (st' := []) (σ' := σ) hM 5 rfl (fun c => ?_) (fun c => ?_)
    · replace h := h.1 c
      exact Pl.live (l' := [(2, .int x2)]) hM lv_45 ⟨show ndL _ from (by decide : List.Nodup ([0, 1, 2, 3] : List Nat)), show ndL _ from (by decide : List.Nodup ([2] : List Nat)), by rw [lva_45_106]; exact List.forall_mem_cons.mpr ⟨rfl, fun _ h => absurd h List.not_mem_nil⟩⟩ h
    · replace h := h.2 c
      refine Pl.seg (pc' := 33) (ls' := [(0, .ref 34), (1, .int x1), (2, .int x2), (3, .int x3)]) (st' := [.int x3, .ref 37, .ref 10]) (σ' := σ) hM 6 rfl ?_
      refine Pl.weak (Pl.iald hM rfl rfl (fun hi => ?_))
      replace h := h hi
      refine Pl.weak (Pl.iald hM rfl rfl (fun hi => ?_))
      replace h := h hi
      refine Pl.seg (pc' := 51) (ls' := [(4, .int (σ.1 10 (σ.1 37 x3.toNatClampNeg).toNatClampNeg)), (0, .ref 34), (1, .int x1), (2, .int x2), (3, .int x3)]) (st' := [.int x2, .ref 37, .ref 10, .int (σ.1 10 (σ.1 37 x3.toNatClampNeg).toNatClampNeg)]) (σ' := σ) hM 8 rfl ?_
      refine Pl.weak (Pl.iald hM rfl rfl (fun hi => ?_))
      replace h := h hi
      refine Pl.weak (Pl.iald hM rfl rfl (fun hi => ?_))
      replace h := h hi
      refine Pl.brN (c := (σ.1 10 (σ.1 37 x3.toNatClampNeg).toNatClampNeg) = (σ.1 10 (σ.1 37 x2.toNatClampNeg).toNatClampNeg)) (a := 60) (b := 56) (ls' := [(4, .int (σ.1 10 (σ.1 37 x3.toNatClampNeg).toNatClampNeg)), (0, .ref 34), (1, .int x1), (2, .int x2), (3, .int x3)]) (st' := []) (σ' := σ) hM 1 rfl (fun c => ?_) (fun c => ?_)
      · replace h := h.2 c
        refine Pl.brN (c := (σ.1 10 (σ.1 37 x3.toNatClampNeg).toNatClampNeg) = (σ.1 3 2)) (a := 100) (b := 98) (ls' := [(5, .int (0 : Int32)), (4, .int (σ.1 10 (σ.1 37 x3.toNatClampNeg).toNatClampNeg)), (0, .ref 34), (1, .int x1), (2, .int x2), (3, .int x3)]) (st' := []) (σ' := σ) hM 9 rfl (fun c => ?_) (fun c => ?_)
        · replace h := h.2 c
          exact Pl.live (l' := [(0, .ref 34), (1, .int x1), (2, .int x2), (3, .int x3)]) hM lv_45 ⟨show ndL _ from (by decide : List.Nodup ([5, 4, 0, 1, 2, 3] : List Nat)), show ndL _ from (by decide : List.Nodup ([0, 1, 2, 3] : List Nat)), by rw [lva_45_100]; exact List.forall_mem_cons.mpr ⟨rfl, List.forall_mem_cons.mpr ⟨rfl, List.forall_mem_cons.mpr ⟨rfl, List.forall_mem_cons.mpr ⟨rfl, fun _ h => absurd h List.not_mem_nil⟩⟩⟩⟩⟩ h
        · replace h := h.1 c
          exact Pl.live (l' := [(0, .ref 34), (1, .int x1), (3, .int x3)]) hM lv_45 ⟨show ndL _ from (by decide : List.Nodup ([5, 4, 0, 1, 2, 3] : List Nat)), show ndL _ from (by decide : List.Nodup ([0, 1, 3] : List Nat)), by rw [lva_45_98]; exact List.forall_mem_cons.mpr ⟨rfl, List.forall_mem_cons.mpr ⟨rfl, List.forall_mem_cons.mpr ⟨rfl, fun _ h => absurd h List.not_mem_nil⟩⟩⟩⟩ h
      · replace h := h.1 c
        refine Pl.seg (pc' := 73) (ls' := [(5, .int (1 : Int32)), (4, .int (σ.1 10 (σ.1 37 x3.toNatClampNeg).toNatClampNeg)), (0, .ref 34), (1, .int x1), (2, .int x2), (3, .int x3)]) (st' := [.int x3, .ref 37]) (σ' := σ) hM 8 rfl ?_
        refine Pl.weak (Pl.iald hM rfl rfl (fun hi => ?_))
        replace h := h hi
        refine Pl.seg (pc' := 79) (ls' := [(5, .int (1 : Int32)), (4, .int (σ.1 10 (σ.1 37 x3.toNatClampNeg).toNatClampNeg)), (0, .ref 34), (1, .int x1), (2, .int x2), (3, .int x3)]) (st' := [.int x2, .ref 37, .int (σ.1 37 x3.toNatClampNeg)]) (σ' := σ) hM 3 rfl ?_
        refine Pl.weak (Pl.iald hM rfl rfl (fun hi => ?_))
        replace h := h hi
        refine Pl.br (c := (σ.1 37 x3.toNatClampNeg) ≤ (σ.1 37 x2.toNatClampNeg)) (a := 100) (b := 83) (ls' := [(5, .int (1 : Int32)), (4, .int (σ.1 10 (σ.1 37 x3.toNatClampNeg).toNatClampNeg)), (0, .ref 34), (1, .int x1), (2, .int x2), (3, .int x3)]) (st' := []) (σ' := σ) hM 1 rfl (fun c => ?_) (fun c => ?_)
        · replace h := h.1 c
          exact Pl.live (l' := [(0, .ref 34), (1, .int x1), (2, .int x2), (3, .int x3)]) hM lv_45 ⟨show ndL _ from (by decide : List.Nodup ([5, 4, 0, 1, 2, 3] : List Nat)), show ndL _ from (by decide : List.Nodup ([0, 1, 2, 3] : List Nat)), by rw [lva_45_100]; exact List.forall_mem_cons.mpr ⟨rfl, List.forall_mem_cons.mpr ⟨rfl, List.forall_mem_cons.mpr ⟨rfl, List.forall_mem_cons.mpr ⟨rfl, fun _ h => absurd h List.not_mem_nil⟩⟩⟩⟩⟩ h
        · replace h := h.2 c
          refine Pl.seg (pc' := 98) (ls' := [(5, .int (1 : Int32)), (4, .int (σ.1 10 (σ.1 37 x3.toNatClampNeg).toNatClampNeg)), (0, .ref 34), (1, .int x1), (2, .int x2), (3, .int x3)]) (st' := []) (σ' := σ) hM 1 rfl ?_
          exact Pl.live (l' := [(0, .ref 34), (1, .int x1), (3, .int x3)]) hM lv_45 ⟨show ndL _ from (by decide : List.Nodup ([5, 4, 0, 1, 2, 3] : List Nat)), show ndL _ from (by decide : List.Nodup ([0, 1, 3] : List Nat)), by rw [lva_45_98]; exact List.forall_mem_cons.mpr ⟨rfl, List.forall_mem_cons.mpr ⟨rfl, List.forall_mem_cons.mpr ⟨rfl, fun _ h => absurd h List.not_mem_nil⟩⟩⟩⟩ h
set_option maxRecDepth 100000 in
theorem p_45_b34_106 {n d : Nat} {Q : Option Value → Sg → Prop} (σ : Sg) (x2 : Int32) (h : Q (some (.int x2)) σ) : Pl PRG (n + 1) d 45 106 [(2, .int x2)] [] σ Q := by
  have hM : PRG[45]? = some M_45 := rfl
  refine Pl.sg1 (pc' := 107) (ls' := [(2, .int x2)]) (st' := [.int x2]) (σ' := σ) hM 0 rfl ?_
  refine Pl.weak (Pl.ret hM rfl rfl h)
set_option maxRecDepth 100000 in
theorem p_45_b34_100 {n d : Nat} {Q : Option Value → Sg → Prop} (σ : Sg) (x1 x2 x3 : Int32) (h : Pl PRG n d 45 6 [(0, .ref 34), (1, .int x1), (2, .int x2), (3, .int (x3 + (1 : Int32)))] [] σ Q) : Pl PRG (n + 1) d 45 100 [(0, .ref 34), (1, .int x1), (2, .int x2), (3, .int x3)] [] σ Q := by
  have hM : PRG[45]? = some M_45 := rfl
  refine Pl.sg1 (pc' := 6) (ls' := [(3, .int (x3 + (1 : Int32))), (0, .ref 34), (1, .int x1), (2, .int x2)]) (st' := []) (σ' := σ) hM 1 rfl ?_
  exact Pl.live (l' := [(0, .ref 34), (1, .int x1), (2, .int x2), (3, .int (x3 + (1 : Int32)))]) hM lv_45 ⟨show ndL _ from (by decide : List.Nodup ([3, 0, 1, 2] : List Nat)), show ndL _ from (by decide : List.Nodup ([0, 1, 2, 3] : List Nat)), by rw [lva_45_6]; exact List.forall_mem_cons.mpr ⟨rfl, List.forall_mem_cons.mpr ⟨rfl, List.forall_mem_cons.mpr ⟨rfl, List.forall_mem_cons.mpr ⟨rfl, fun _ h => absurd h List.not_mem_nil⟩⟩⟩⟩⟩ h
set_option maxRecDepth 100000 in
theorem p_45_b34_98 {n d : Nat} {Q : Option Value → Sg → Prop} (σ : Sg) (x1 x3 : Int32) (h : Pl PRG n d 45 100 [(0, .ref 34), (1, .int x1), (2, .int x3), (3, .int x3)] [] σ Q) : Pl PRG (n + 1) d 45 98 [(0, .ref 34), (1, .int x1), (3, .int x3)] [] σ Q := by
  have hM : PRG[45]? = some M_45 := rfl
  refine Pl.sg1 (pc' := 100) (ls' := [(2, .int x3), (0, .ref 34), (1, .int x1), (3, .int x3)]) (st' := []) (σ' := σ) hM 1 rfl ?_
  exact Pl.live (l' := [(0, .ref 34), (1, .int x1), (2, .int x3), (3, .int x3)]) hM lv_45 ⟨show ndL _ from (by decide : List.Nodup ([2, 0, 1, 3] : List Nat)), show ndL _ from (by decide : List.Nodup ([0, 1, 2, 3] : List Nat)), by rw [lva_45_100]; exact List.forall_mem_cons.mpr ⟨rfl, List.forall_mem_cons.mpr ⟨rfl, List.forall_mem_cons.mpr ⟨rfl, List.forall_mem_cons.mpr ⟨rfl, fun _ h => absurd h List.not_mem_nil⟩⟩⟩⟩⟩ h
set_option maxRecDepth 100000 in
theorem p_62_b34_0 {n d : Nat} {Q : Option Value → Sg → Prop} (σ : Sg) (h : (((σ.1 34 7) < (σ.1 3 10) → ((((σ.1 34 7) - (σ.1 34 7) / (4 : Int32) * (4 : Int32)) = 0 → (inR (((σ.1 34 7) / (4 : Int32)) - (1 : Int32)) 4 = true → Q (some (.int (σ.1 45 (((σ.1 34 7) / (4 : Int32)) - (1 : Int32)).toNatClampNeg))) σ)) ∧ (¬ ((σ.1 34 7) - (σ.1 34 7) / (4 : Int32) * (4 : Int32)) = 0 → Q (some (.int (((σ.1 34 6) + (1 : Int32)) &&& (3 : Int32)))) σ))) ∧ (¬ (σ.1 34 7) < (σ.1 3 10) → Q (some (.int (-2 : Int32))) σ))) : Pl PRG (n + 1) d 62 0 [(0, .ref 34)] [] σ Q := by
  have hM : PRG[62]? = some M_62 := rfl
  refine Pl.br1 (c := (σ.1 34 7) < (σ.1 3 10)) (a := 17) (b := 14) (ls' := [(0, .ref 34)]) (st' := []) (σ' := σ) hM 5 rfl (fun c => ?_) (fun c => ?_)
  · replace h := h.1 c
    refine Pl.brN (c := ((σ.1 34 7) - (σ.1 34 7) / (4 : Int32) * (4 : Int32)) = 0) (a := 42) (b := 26) (ls' := [(0, .ref 34)]) (st' := []) (σ' := σ) hM 5 rfl (fun c => ?_) (fun c => ?_)
    · replace h := h.2 c
      refine Pl.seg (pc' := 50) (ls' := [(0, .ref 34)]) (st' := [.int (((σ.1 34 6) + (1 : Int32)) &&& (3 : Int32))]) (σ' := σ) hM 6 rfl ?_
      refine Pl.weak (Pl.ret hM rfl rfl h)
    · replace h := h.1 c
      refine Pl.seg (pc' := 38) (ls' := [(0, .ref 34)]) (st' := [.int (((σ.1 34 7) / (4 : Int32)) - (1 : Int32)), .ref 45]) (σ' := σ) hM 8 rfl ?_
      refine Pl.weak (Pl.iald hM rfl rfl (fun hi => ?_))
      replace h := h hi
      refine Pl.seg (pc' := 50) (ls' := [(0, .ref 34)]) (st' := [.int (σ.1 45 (((σ.1 34 7) / (4 : Int32)) - (1 : Int32)).toNatClampNeg)]) (σ' := σ) hM 1 rfl ?_
      refine Pl.weak (Pl.ret hM rfl rfl h)
  · replace h := h.2 c
    refine Pl.seg (pc' := 16) (ls' := [(0, .ref 34)]) (st' := [.int (-2 : Int32)]) (σ' := σ) hM 1 rfl ?_
    refine Pl.weak (Pl.ret hM rfl rfl h)
def LV_67 : List (Nat × List Nat) := [(0, [0, 1]), (1, [0, 1]), (2, [0, 1]), (5, [0, 1]), (6, [0, 1]), (7, [0, 1]), (8, [0, 1]), (11, [0, 1]), (12, [0, 1]), (13, [0, 1]), (14, [0, 1]), (17, [0, 1]), (18, [0, 1]), (19, [0, 1]), (20, [0, 1]), (23, [0, 1]), (24, [0, 1]), (25, [0, 1]), (28, [0, 1]), (29, [0, 1]), (30, [0, 1]), (33, [0, 1]), (36, [0, 1]), (37, [0, 1]), (38, [0, 1, 2]), (39, [0, 1, 2]), (40, [0, 1, 2]), (43, [0, 1, 2]), (46, [0, 1, 2]), (47, [0, 1, 2]), (48, [0, 1, 2]), (51, [0, 1, 2]), (52, [0, 1, 2]), (53, [0, 1, 2]), (56, [0, 1, 2]), (59, [0, 1, 2]), (62, [])]
set_option maxRecDepth 100000 in
theorem lv_67 : chkLv M_67 LV_67 = true := by decide +kernel
set_option maxRecDepth 100000 in
theorem lva_67_38 : lvA LV_67 38 = [0, 1, 2] := by decide +kernel
set_option maxRecDepth 100000 in
theorem p_67_b46_22_0 {n d : Nat} {Q : Option Value → Sg → Prop} (σ : Sg) (h : (∀ σ1, RCx PRG n 32 [.ref 46, .int (σ.1 23 0), .int (σ.1 23 1), .int (σ.1 23 2), .int (σ.1 23 3)] σ none σ1 → (∀ σ2, RCx PRG n 31 [.ref 46, .int (σ1.1 22 5)] σ1 none σ2 → Pl PRG n d 67 38 [(0, .ref 46), (1, .ref 22), (2, .int (0 : Int32))] [] σ2 Q))) : Pl PRG (n + 1) d 67 0 [(0, .ref 46), (1, .ref 22)] [] σ Q := by
  have hM : PRG[67]? = some M_67 := rfl
  refine Pl.sg1 (pc' := 25) (ls' := [(0, .ref 46), (1, .ref 22)]) (st' := [.int (σ.1 23 3), .int (σ.1 23 2), .int (σ.1 23 1), .int (σ.1 23 0), .ref 46]) (σ' := σ) hM 16 rfl ?_
  refine Pl.weak (Pl.cV hM rfl rfl (by decide) (Mj := M_32) rfl rfl (fun σ1 hw => ?_))
  replace h := h σ1 hw
  refine Pl.seg (pc' := 33) (ls' := [(0, .ref 46), (1, .ref 22)]) (st' := [.int (σ1.1 22 5), .ref 46]) (σ' := σ1) hM 3 rfl ?_
  refine Pl.weak (Pl.cV hM rfl rfl (by decide) (Mj := M_31) rfl rfl (fun σ2 hw => ?_))
  replace h := h σ2 hw
  refine Pl.seg (pc' := 38) (ls' := [(2, .int (0 : Int32)), (0, .ref 46), (1, .ref 22)]) (st' := []) (σ' := σ2) hM 2 rfl ?_
  exact Pl.live (l' := [(0, .ref 46), (1, .ref 22), (2, .int (0 : Int32))]) hM lv_67 ⟨show ndL _ from (by decide : List.Nodup ([2, 0, 1] : List Nat)), show ndL _ from (by decide : List.Nodup ([0, 1, 2] : List Nat)), by rw [lva_67_38]; exact List.forall_mem_cons.mpr ⟨rfl, List.forall_mem_cons.mpr ⟨rfl, List.forall_mem_cons.mpr ⟨rfl, fun _ h => absurd h List.not_mem_nil⟩⟩⟩⟩ h
set_option maxRecDepth 100000 in
theorem p_67_b46_22_38 {n d : Nat} {Q : Option Value → Sg → Prop} (σ : Sg) (x2 : Int32) (h : (((σ.1 22 7) ≤ x2 → Q none σ) ∧ (¬ (σ.1 22 7) ≤ x2 → (inR x2 16 = true → (∀ σ1, RCx PRG n 63 [.ref 46, .int (σ.1 25 x2.toNatClampNeg)] σ none σ1 → Pl PRG n d 67 38 [(0, .ref 46), (1, .ref 22), (2, .int (x2 + (1 : Int32)))] [] σ1 Q))))) : Pl PRG (n + 1) d 67 38 [(0, .ref 46), (1, .ref 22), (2, .int x2)] [] σ Q := by
  have hM : PRG[67]? = some M_67 := rfl
  refine Pl.br1 (c := (σ.1 22 7) ≤ x2) (a := 62) (b := 46) (ls' := [(0, .ref 46), (1, .ref 22), (2, .int x2)]) (st' := []) (σ' := σ) hM 3 rfl (fun c => ?_) (fun c => ?_)
  · replace h := h.1 c
    refine Pl.weak (Pl.ret hM rfl rfl h)
  · replace h := h.2 c
    refine Pl.seg (pc' := 52) (ls' := [(0, .ref 46), (1, .ref 22), (2, .int x2)]) (st' := [.int x2, .ref 25, .ref 46]) (σ' := σ) hM 4 rfl ?_
    refine Pl.weak (Pl.iald hM rfl rfl (fun hi => ?_))
    replace h := h hi
    refine Pl.weak (Pl.cV hM rfl rfl (by decide) (Mj := M_63) rfl rfl (fun σ1 hw => ?_))
    replace h := h σ1 hw
    refine Pl.seg (pc' := 38) (ls' := [(2, .int (x2 + (1 : Int32))), (0, .ref 46), (1, .ref 22)]) (st' := []) (σ' := σ1) hM 2 rfl ?_
    exact Pl.live (l' := [(0, .ref 46), (1, .ref 22), (2, .int (x2 + (1 : Int32)))]) hM lv_67 ⟨show ndL _ from (by decide : List.Nodup ([2, 0, 1] : List Nat)), show ndL _ from (by decide : List.Nodup ([0, 1, 2] : List Nat)), by rw [lva_67_38]; exact List.forall_mem_cons.mpr ⟨rfl, List.forall_mem_cons.mpr ⟨rfl, List.forall_mem_cons.mpr ⟨rfl, fun _ h => absurd h List.not_mem_nil⟩⟩⟩⟩ h
set_option maxRecDepth 100000 in
theorem p_67_b58_22_0 {n d : Nat} {Q : Option Value → Sg → Prop} (σ : Sg) (h : (∀ σ1, RCx PRG n 32 [.ref 58, .int (σ.1 23 0), .int (σ.1 23 1), .int (σ.1 23 2), .int (σ.1 23 3)] σ none σ1 → (∀ σ2, RCx PRG n 31 [.ref 58, .int (σ1.1 22 5)] σ1 none σ2 → Pl PRG n d 67 38 [(0, .ref 58), (1, .ref 22), (2, .int (0 : Int32))] [] σ2 Q))) : Pl PRG (n + 1) d 67 0 [(0, .ref 58), (1, .ref 22)] [] σ Q := by
  have hM : PRG[67]? = some M_67 := rfl
  refine Pl.sg1 (pc' := 25) (ls' := [(0, .ref 58), (1, .ref 22)]) (st' := [.int (σ.1 23 3), .int (σ.1 23 2), .int (σ.1 23 1), .int (σ.1 23 0), .ref 58]) (σ' := σ) hM 16 rfl ?_
  refine Pl.weak (Pl.cV hM rfl rfl (by decide) (Mj := M_32) rfl rfl (fun σ1 hw => ?_))
  replace h := h σ1 hw
  refine Pl.seg (pc' := 33) (ls' := [(0, .ref 58), (1, .ref 22)]) (st' := [.int (σ1.1 22 5), .ref 58]) (σ' := σ1) hM 3 rfl ?_
  refine Pl.weak (Pl.cV hM rfl rfl (by decide) (Mj := M_31) rfl rfl (fun σ2 hw => ?_))
  replace h := h σ2 hw
  refine Pl.seg (pc' := 38) (ls' := [(2, .int (0 : Int32)), (0, .ref 58), (1, .ref 22)]) (st' := []) (σ' := σ2) hM 2 rfl ?_
  exact Pl.live (l' := [(0, .ref 58), (1, .ref 22), (2, .int (0 : Int32))]) hM lv_67 ⟨show ndL _ from (by decide : List.Nodup ([2, 0, 1] : List Nat)), show ndL _ from (by decide : List.Nodup ([0, 1, 2] : List Nat)), by rw [lva_67_38]; exact List.forall_mem_cons.mpr ⟨rfl, List.forall_mem_cons.mpr ⟨rfl, List.forall_mem_cons.mpr ⟨rfl, fun _ h => absurd h List.not_mem_nil⟩⟩⟩⟩ h
set_option maxRecDepth 100000 in
theorem p_67_b58_22_38 {n d : Nat} {Q : Option Value → Sg → Prop} (σ : Sg) (x2 : Int32) (h : (((σ.1 22 7) ≤ x2 → Q none σ) ∧ (¬ (σ.1 22 7) ≤ x2 → (inR x2 16 = true → (∀ σ1, RCx PRG n 63 [.ref 58, .int (σ.1 25 x2.toNatClampNeg)] σ none σ1 → Pl PRG n d 67 38 [(0, .ref 58), (1, .ref 22), (2, .int (x2 + (1 : Int32)))] [] σ1 Q))))) : Pl PRG (n + 1) d 67 38 [(0, .ref 58), (1, .ref 22), (2, .int x2)] [] σ Q := by
  have hM : PRG[67]? = some M_67 := rfl
  refine Pl.br1 (c := (σ.1 22 7) ≤ x2) (a := 62) (b := 46) (ls' := [(0, .ref 58), (1, .ref 22), (2, .int x2)]) (st' := []) (σ' := σ) hM 3 rfl (fun c => ?_) (fun c => ?_)
  · replace h := h.1 c
    refine Pl.weak (Pl.ret hM rfl rfl h)
  · replace h := h.2 c
    refine Pl.seg (pc' := 52) (ls' := [(0, .ref 58), (1, .ref 22), (2, .int x2)]) (st' := [.int x2, .ref 25, .ref 58]) (σ' := σ) hM 4 rfl ?_
    refine Pl.weak (Pl.iald hM rfl rfl (fun hi => ?_))
    replace h := h hi
    refine Pl.weak (Pl.cV hM rfl rfl (by decide) (Mj := M_63) rfl rfl (fun σ1 hw => ?_))
    replace h := h σ1 hw
    refine Pl.seg (pc' := 38) (ls' := [(2, .int (x2 + (1 : Int32))), (0, .ref 58), (1, .ref 22)]) (st' := []) (σ' := σ1) hM 2 rfl ?_
    exact Pl.live (l' := [(0, .ref 58), (1, .ref 22), (2, .int (x2 + (1 : Int32)))]) hM lv_67 ⟨show ndL _ from (by decide : List.Nodup ([2, 0, 1] : List Nat)), show ndL _ from (by decide : List.Nodup ([0, 1, 2] : List Nat)), by rw [lva_67_38]; exact List.forall_mem_cons.mpr ⟨rfl, List.forall_mem_cons.mpr ⟨rfl, List.forall_mem_cons.mpr ⟨rfl, fun _ h => absurd h List.not_mem_nil⟩⟩⟩⟩ h
set_option maxRecDepth 100000 in
theorem p_67_b34_22_0 {n d : Nat} {Q : Option Value → Sg → Prop} (σ : Sg) (h : (∀ σ1, RCx PRG n 32 [.ref 34, .int (σ.1 23 0), .int (σ.1 23 1), .int (σ.1 23 2), .int (σ.1 23 3)] σ none σ1 → (∀ σ2, RCx PRG n 31 [.ref 34, .int (σ1.1 22 5)] σ1 none σ2 → Pl PRG n d 67 38 [(0, .ref 34), (1, .ref 22), (2, .int (0 : Int32))] [] σ2 Q))) : Pl PRG (n + 1) d 67 0 [(0, .ref 34), (1, .ref 22)] [] σ Q := by
  have hM : PRG[67]? = some M_67 := rfl
  refine Pl.sg1 (pc' := 25) (ls' := [(0, .ref 34), (1, .ref 22)]) (st' := [.int (σ.1 23 3), .int (σ.1 23 2), .int (σ.1 23 1), .int (σ.1 23 0), .ref 34]) (σ' := σ) hM 16 rfl ?_
  refine Pl.weak (Pl.cV hM rfl rfl (by decide) (Mj := M_32) rfl rfl (fun σ1 hw => ?_))
  replace h := h σ1 hw
  refine Pl.seg (pc' := 33) (ls' := [(0, .ref 34), (1, .ref 22)]) (st' := [.int (σ1.1 22 5), .ref 34]) (σ' := σ1) hM 3 rfl ?_
  refine Pl.weak (Pl.cV hM rfl rfl (by decide) (Mj := M_31) rfl rfl (fun σ2 hw => ?_))
  replace h := h σ2 hw
  refine Pl.seg (pc' := 38) (ls' := [(2, .int (0 : Int32)), (0, .ref 34), (1, .ref 22)]) (st' := []) (σ' := σ2) hM 2 rfl ?_
  exact Pl.live (l' := [(0, .ref 34), (1, .ref 22), (2, .int (0 : Int32))]) hM lv_67 ⟨show ndL _ from (by decide : List.Nodup ([2, 0, 1] : List Nat)), show ndL _ from (by decide : List.Nodup ([0, 1, 2] : List Nat)), by rw [lva_67_38]; exact List.forall_mem_cons.mpr ⟨rfl, List.forall_mem_cons.mpr ⟨rfl, List.forall_mem_cons.mpr ⟨rfl, fun _ h => absurd h List.not_mem_nil⟩⟩⟩⟩ h
set_option maxRecDepth 100000 in
theorem p_67_b34_22_38 {n d : Nat} {Q : Option Value → Sg → Prop} (σ : Sg) (x2 : Int32) (h : (((σ.1 22 7) ≤ x2 → Q none σ) ∧ (¬ (σ.1 22 7) ≤ x2 → (inR x2 16 = true → (∀ σ1, RCx PRG n 63 [.ref 34, .int (σ.1 25 x2.toNatClampNeg)] σ none σ1 → Pl PRG n d 67 38 [(0, .ref 34), (1, .ref 22), (2, .int (x2 + (1 : Int32)))] [] σ1 Q))))) : Pl PRG (n + 1) d 67 38 [(0, .ref 34), (1, .ref 22), (2, .int x2)] [] σ Q := by
  have hM : PRG[67]? = some M_67 := rfl
  refine Pl.br1 (c := (σ.1 22 7) ≤ x2) (a := 62) (b := 46) (ls' := [(0, .ref 34), (1, .ref 22), (2, .int x2)]) (st' := []) (σ' := σ) hM 3 rfl (fun c => ?_) (fun c => ?_)
  · replace h := h.1 c
    refine Pl.weak (Pl.ret hM rfl rfl h)
  · replace h := h.2 c
    refine Pl.seg (pc' := 52) (ls' := [(0, .ref 34), (1, .ref 22), (2, .int x2)]) (st' := [.int x2, .ref 25, .ref 34]) (σ' := σ) hM 4 rfl ?_
    refine Pl.weak (Pl.iald hM rfl rfl (fun hi => ?_))
    replace h := h hi
    refine Pl.weak (Pl.cV hM rfl rfl (by decide) (Mj := M_63) rfl rfl (fun σ1 hw => ?_))
    replace h := h σ1 hw
    refine Pl.seg (pc' := 38) (ls' := [(2, .int (x2 + (1 : Int32))), (0, .ref 34), (1, .ref 22)]) (st' := []) (σ' := σ1) hM 2 rfl ?_
    exact Pl.live (l' := [(0, .ref 34), (1, .ref 22), (2, .int (x2 + (1 : Int32)))]) hM lv_67 ⟨show ndL _ from (by decide : List.Nodup ([2, 0, 1] : List Nat)), show ndL _ from (by decide : List.Nodup ([0, 1, 2] : List Nat)), by rw [lva_67_38]; exact List.forall_mem_cons.mpr ⟨rfl, List.forall_mem_cons.mpr ⟨rfl, List.forall_mem_cons.mpr ⟨rfl, fun _ h => absurd h List.not_mem_nil⟩⟩⟩⟩ h
set_option maxRecDepth 100000 in
theorem p_67_b22_46_0 {n d : Nat} {Q : Option Value → Sg → Prop} (σ : Sg) (h : (∀ σ1, RCx PRG n 32 [.ref 22, .int (σ.1 47 0), .int (σ.1 47 1), .int (σ.1 47 2), .int (σ.1 47 3)] σ none σ1 → (∀ σ2, RCx PRG n 31 [.ref 22, .int (σ1.1 46 5)] σ1 none σ2 → Pl PRG n d 67 38 [(0, .ref 22), (1, .ref 46), (2, .int (0 : Int32))] [] σ2 Q))) : Pl PRG (n + 1) d 67 0 [(0, .ref 22), (1, .ref 46)] [] σ Q := by
  have hM : PRG[67]? = some M_67 := rfl
  refine Pl.sg1 (pc' := 25) (ls' := [(0, .ref 22), (1, .ref 46)]) (st' := [.int (σ.1 47 3), .int (σ.1 47 2), .int (σ.1 47 1), .int (σ.1 47 0), .ref 22]) (σ' := σ) hM 16 rfl ?_
  refine Pl.weak (Pl.cV hM rfl rfl (by decide) (Mj := M_32) rfl rfl (fun σ1 hw => ?_))
  replace h := h σ1 hw
  refine Pl.seg (pc' := 33) (ls' := [(0, .ref 22), (1, .ref 46)]) (st' := [.int (σ1.1 46 5), .ref 22]) (σ' := σ1) hM 3 rfl ?_
  refine Pl.weak (Pl.cV hM rfl rfl (by decide) (Mj := M_31) rfl rfl (fun σ2 hw => ?_))
  replace h := h σ2 hw
  refine Pl.seg (pc' := 38) (ls' := [(2, .int (0 : Int32)), (0, .ref 22), (1, .ref 46)]) (st' := []) (σ' := σ2) hM 2 rfl ?_
  exact Pl.live (l' := [(0, .ref 22), (1, .ref 46), (2, .int (0 : Int32))]) hM lv_67 ⟨show ndL _ from (by decide : List.Nodup ([2, 0, 1] : List Nat)), show ndL _ from (by decide : List.Nodup ([0, 1, 2] : List Nat)), by rw [lva_67_38]; exact List.forall_mem_cons.mpr ⟨rfl, List.forall_mem_cons.mpr ⟨rfl, List.forall_mem_cons.mpr ⟨rfl, fun _ h => absurd h List.not_mem_nil⟩⟩⟩⟩ h
set_option maxRecDepth 100000 in
theorem p_67_b22_46_38 {n d : Nat} {Q : Option Value → Sg → Prop} (σ : Sg) (x2 : Int32) (h : (((σ.1 46 7) ≤ x2 → Q none σ) ∧ (¬ (σ.1 46 7) ≤ x2 → (inR x2 16 = true → (∀ σ1, RCx PRG n 63 [.ref 22, .int (σ.1 49 x2.toNatClampNeg)] σ none σ1 → Pl PRG n d 67 38 [(0, .ref 22), (1, .ref 46), (2, .int (x2 + (1 : Int32)))] [] σ1 Q))))) : Pl PRG (n + 1) d 67 38 [(0, .ref 22), (1, .ref 46), (2, .int x2)] [] σ Q := by
  have hM : PRG[67]? = some M_67 := rfl
  refine Pl.br1 (c := (σ.1 46 7) ≤ x2) (a := 62) (b := 46) (ls' := [(0, .ref 22), (1, .ref 46), (2, .int x2)]) (st' := []) (σ' := σ) hM 3 rfl (fun c => ?_) (fun c => ?_)
  · replace h := h.1 c
    refine Pl.weak (Pl.ret hM rfl rfl h)
  · replace h := h.2 c
    refine Pl.seg (pc' := 52) (ls' := [(0, .ref 22), (1, .ref 46), (2, .int x2)]) (st' := [.int x2, .ref 49, .ref 22]) (σ' := σ) hM 4 rfl ?_
    refine Pl.weak (Pl.iald hM rfl rfl (fun hi => ?_))
    replace h := h hi
    refine Pl.weak (Pl.cV hM rfl rfl (by decide) (Mj := M_63) rfl rfl (fun σ1 hw => ?_))
    replace h := h σ1 hw
    refine Pl.seg (pc' := 38) (ls' := [(2, .int (x2 + (1 : Int32))), (0, .ref 22), (1, .ref 46)]) (st' := []) (σ' := σ1) hM 2 rfl ?_
    exact Pl.live (l' := [(0, .ref 22), (1, .ref 46), (2, .int (x2 + (1 : Int32)))]) hM lv_67 ⟨show ndL _ from (by decide : List.Nodup ([2, 0, 1] : List Nat)), show ndL _ from (by decide : List.Nodup ([0, 1, 2] : List Nat)), by rw [lva_67_38]; exact List.forall_mem_cons.mpr ⟨rfl, List.forall_mem_cons.mpr ⟨rfl, List.forall_mem_cons.mpr ⟨rfl, fun _ h => absurd h List.not_mem_nil⟩⟩⟩⟩ h
set_option maxRecDepth 100000 in
theorem p_67_b22_58_0 {n d : Nat} {Q : Option Value → Sg → Prop} (σ : Sg) (h : (∀ σ1, RCx PRG n 32 [.ref 22, .int (σ.1 59 0), .int (σ.1 59 1), .int (σ.1 59 2), .int (σ.1 59 3)] σ none σ1 → (∀ σ2, RCx PRG n 31 [.ref 22, .int (σ1.1 58 5)] σ1 none σ2 → Pl PRG n d 67 38 [(0, .ref 22), (1, .ref 58), (2, .int (0 : Int32))] [] σ2 Q))) : Pl PRG (n + 1) d 67 0 [(0, .ref 22), (1, .ref 58)] [] σ Q := by
  have hM : PRG[67]? = some M_67 := rfl
  refine Pl.sg1 (pc' := 25) (ls' := [(0, .ref 22), (1, .ref 58)]) (st' := [.int (σ.1 59 3), .int (σ.1 59 2), .int (σ.1 59 1), .int (σ.1 59 0), .ref 22]) (σ' := σ) hM 16 rfl ?_
  refine Pl.weak (Pl.cV hM rfl rfl (by decide) (Mj := M_32) rfl rfl (fun σ1 hw => ?_))
  replace h := h σ1 hw
  refine Pl.seg (pc' := 33) (ls' := [(0, .ref 22), (1, .ref 58)]) (st' := [.int (σ1.1 58 5), .ref 22]) (σ' := σ1) hM 3 rfl ?_
  refine Pl.weak (Pl.cV hM rfl rfl (by decide) (Mj := M_31) rfl rfl (fun σ2 hw => ?_))
  replace h := h σ2 hw
  refine Pl.seg (pc' := 38) (ls' := [(2, .int (0 : Int32)), (0, .ref 22), (1, .ref 58)]) (st' := []) (σ' := σ2) hM 2 rfl ?_
  exact Pl.live (l' := [(0, .ref 22), (1, .ref 58), (2, .int (0 : Int32))]) hM lv_67 ⟨show ndL _ from (by decide : List.Nodup ([2, 0, 1] : List Nat)), show ndL _ from (by decide : List.Nodup ([0, 1, 2] : List Nat)), by rw [lva_67_38]; exact List.forall_mem_cons.mpr ⟨rfl, List.forall_mem_cons.mpr ⟨rfl, List.forall_mem_cons.mpr ⟨rfl, fun _ h => absurd h List.not_mem_nil⟩⟩⟩⟩ h
set_option maxRecDepth 100000 in
theorem p_67_b22_58_38 {n d : Nat} {Q : Option Value → Sg → Prop} (σ : Sg) (x2 : Int32) (h : (((σ.1 58 7) ≤ x2 → Q none σ) ∧ (¬ (σ.1 58 7) ≤ x2 → (inR x2 16 = true → (∀ σ1, RCx PRG n 63 [.ref 22, .int (σ.1 61 x2.toNatClampNeg)] σ none σ1 → Pl PRG n d 67 38 [(0, .ref 22), (1, .ref 58), (2, .int (x2 + (1 : Int32)))] [] σ1 Q))))) : Pl PRG (n + 1) d 67 38 [(0, .ref 22), (1, .ref 58), (2, .int x2)] [] σ Q := by
  have hM : PRG[67]? = some M_67 := rfl
  refine Pl.br1 (c := (σ.1 58 7) ≤ x2) (a := 62) (b := 46) (ls' := [(0, .ref 22), (1, .ref 58), (2, .int x2)]) (st' := []) (σ' := σ) hM 3 rfl (fun c => ?_) (fun c => ?_)
  · replace h := h.1 c
    refine Pl.weak (Pl.ret hM rfl rfl h)
  · replace h := h.2 c
    refine Pl.seg (pc' := 52) (ls' := [(0, .ref 22), (1, .ref 58), (2, .int x2)]) (st' := [.int x2, .ref 61, .ref 22]) (σ' := σ) hM 4 rfl ?_
    refine Pl.weak (Pl.iald hM rfl rfl (fun hi => ?_))
    replace h := h hi
    refine Pl.weak (Pl.cV hM rfl rfl (by decide) (Mj := M_63) rfl rfl (fun σ1 hw => ?_))
    replace h := h σ1 hw
    refine Pl.seg (pc' := 38) (ls' := [(2, .int (x2 + (1 : Int32))), (0, .ref 22), (1, .ref 58)]) (st' := []) (σ' := σ1) hM 2 rfl ?_
    exact Pl.live (l' := [(0, .ref 22), (1, .ref 58), (2, .int (x2 + (1 : Int32)))]) hM lv_67 ⟨show ndL _ from (by decide : List.Nodup ([2, 0, 1] : List Nat)), show ndL _ from (by decide : List.Nodup ([0, 1, 2] : List Nat)), by rw [lva_67_38]; exact List.forall_mem_cons.mpr ⟨rfl, List.forall_mem_cons.mpr ⟨rfl, List.forall_mem_cons.mpr ⟨rfl, fun _ h => absurd h List.not_mem_nil⟩⟩⟩⟩ h
