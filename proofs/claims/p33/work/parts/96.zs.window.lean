/-! read, the reference: where it writes relations, not and or of its literals -/
def SEx : List Nat := [199, 189, 190, 192, 197, 198, 194, 196, 191]
def ZEx : List Nat := [114, 115, 116]
def GEx : List (Nat × Nat) := [(12, 5), (12, 6), (12, 7), (12, 11), (12, 12), (12, 13), (12, 15), (12, 16), (12, 37), (12, 38), (12, 39), (12, 40), (12, 41)]
def TEx : TBL := [(199, [(0, []), (1, [false]), (2, [false, false]), (5, []), (6, [false]), (9, [false]), (10, []), (11, [false]), (12, []), (13, [false]), (16, []), (17, [false]), (20, [false]), (23, []), (24, [false]), (26, [false, false]), (29, [false]), (32, []), (33, [false]), (36, [false]), (38, [false, false]), (41, []), (42, [false]), (43, [false, false]), (46, []), (47, [false]), (48, [false, false]), (51, [false, false]), (52, [false, false, false]), (53, [false, false]), (56, []), (57, [false]), (60, []), (61, [false]), (64, [false]), (65, [false, false]), (68, [false, false]), (70, [false, false, false]), (71, []), (72, [false]), (73, [false, false]), (76, [false, false]), (77, [false, false, false]), (78, [false, false]), (81, []), (84, []), (85, [false]), (88, []), (89, [false]), (92, [false]), (95, []), (96, []), (97, [false]), (99, [false, false]), (102, [false]), (105, []), (106, [false]), (109, [false]), (110, [false, false]), (113, []), (114, [false]), (115, [false, false]), (118, []), (119, [false]), (120, [false, false]), (123, [false, false]), (124, [false, false, false]), (125, [false, false]), (128, []), (129, [false]), (130, [false, false]), (133, [false, false]), (134, [false, false, false]), (135, [false, false]), (138, []), (139, [false]), (142, []), (145, []), (146, [false]), (148, [false, false]), (151, [false]), (154, []), (155, [false]), (157, [false, false]), (160, [false]), (163, []), (164, [false]), (166, [false, false]), (169, [false]), (172, []), (173, [false]), (175, [false, false]), (178, [false]), (181, []), (182, [false]), (185, []), (186, [false]), (187, []), (188, [false]), (191, []), (192, [false]), (195, [false]), (196, [false, false]), (199, []), (200, [false]), (201, [false, false]), (204, []), (205, [false]), (206, [false, false]), (209, []), (210, []), (211, [false]), (212, [false, false]), (214, [false, false, false]), (217, [false, false]), (220, [false]), (221, [false, false]), (223, [false, false, false]), (226, [false, false]), (229, [false]), (230, [false, false]), (233, [false]), (234, [false, false]), (237, []), (238, [false]), (241, [false]), (242, [false, false]), (245, [false, false]), (246, [false, false, false]), (249, [false, false, false]), (250, [false, false, false, false]), (253, [false, false, false, false]), (254, [false, false, false]), (255, []), (256, [false]), (257, [false, false]), (260, [false, false]), (261, [false, false, false]), (262, [false, false]), (265, []), (266, [false]), (269, []), (272, [])]),
  (189, [(0, []), (1, [false]), (4, [false]), (7, []), (8, [false]), (11, [false]), (12, [false, false]), (15, [false, false]), (16, [false]), (17, [false, false]), (20, []), (21, [false]), (24, []), (25, [false])]),
  (190, [(0, []), (1, [false]), (4, [false]), (7, []), (8, []), (9, [false]), (10, [false, false]), (13, []), (14, [false]), (15, [false, false]), (18, [false, false]), (19, [false, false, false]), (22, [false, false, false]), (23, [false, false]), (26, [])]),
  (192, [(0, []), (1, [false]), (4, [false]), (7, [false, false]), (10, []), (11, [false]), (12, [false, false]), (15, []), (18, []), (19, [false]), (20, [false, false]), (23, [false, false]), (24, [false, false, false]), (25, [false, false]), (28, [])]),
  (197, [(0, []), (1, [false]), (2, [false, false]), (5, [false]), (8, []), (9, [false]), (10, [false, false]), (11, [false, false, false]), (14, [false, false, false]), (15, [false, false, false, false]), (18, [false, false, false, false]), (19, [false, false, false]), (22, []), (23, [false]), (26, []), (29, []), (30, [false]), (33, [false]), (36, []), (37, [false]), (40, [false]), (41, [false, false]), (44, [false, false]), (45, [false]), (47, [false, false]), (50, []), (51, [false]), (54, [false]), (55, [false, false]), (58, [false, false]), (59, [false]), (61, [false, false]), (64, []), (65, [false]), (66, [false, false]), (67, [false, false, false]), (70, [false, false, false]), (71, [false, false, false, false]), (74, [false, false, false, false]), (75, [false, false, false]), (77, [false, false, false, false]), (78, [false, false, false]), (81, []), (82, [false]), (85, []), (88, []), (89, [false]), (91, [false, false]), (94, [false]), (97, []), (98, [false]), (101, []), (102, [false]), (103, [false, false]), (104, [false, false, false]), (107, [false]), (108, []), (109, [false]), (110, [false, false]), (112, [false, false, false]), (113, [false, false, false, false]), (114, [false, false, false, false, false]), (117, [false, false, false]), (118, [false, false, false, false]), (121, [false, false, false]), (122, [false, false, false, false]), (123, [false, false, false]), (126, []), (129, []), (130, [false]), (131, [false, false]), (134, [])]),
  (198, [(0, []), (1, [false]), (4, [false]), (7, []), (8, [false]), (11, [false]), (12, [false, false]), (15, [false, false]), (16, [false, false, false]), (17, [false, false]), (18, [false]), (19, []), (20, [false]), (22, [false, false]), (25, []), (26, [false]), (29, []), (30, [false]), (32, [false, false]), (35, []), (36, [false]), (38, [false, false]), (41, []), (42, []), (43, [false]), (44, [false, false]), (47, [false, false]), (48, [false, false, false]), (49, [false, false]), (52, []), (53, [false]), (54, [false, false]), (56, [false, false, false]), (59, [false]), (60, [false, false]), (63, [false]), (64, [false, false]), (66, [false, false, false]), (69, [false]), (70, [false, false]), (73, [false]), (74, [false, false]), (76, [false, false, false]), (79, [false]), (80, [false, false]), (83, [false]), (84, [false, false]), (85, [false, false, false]), (88, []), (91, [])]),
  (194, [(0, []), (1, [false]), (4, [false]), (7, []), (8, [false]), (9, [false, false]), (12, [false]), (15, []), (16, [false]), (17, [false, false]), (20, []), (21, [false]), (22, []), (23, [false]), (26, [false]), (27, [false, false]), (30, [false, false]), (31, [false]), (32, []), (33, [false]), (34, [false, false]), (37, []), (38, [false]), (39, [false, false]), (42, []), (43, [false]), (44, [false, false]), (45, [false, false, false]), (48, [false, false, false]), (51, []), (52, [false]), (55, []), (56, [false])]),
  (196, [(0, []), (1, [false]), (4, [false]), (5, [false, false]), (8, [false, false]), (9, [false, false, false]), (10, []), (11, [false]), (14, [false]), (15, [false, false]), (18, [false, false]), (19, [false, false, false]), (20, []), (21, [false]), (22, [false, false]), (25, [false, false]), (26, [false, false, false]), (27, [false, false]), (30, [])]),
  (191, [(0, []), (1, [false]), (4, [false]), (5, [false, false]), (6, [false]), (7, []), (8, [false]), (11, [false]), (14, []), (15, [false]), (18, [false]), (21, []), (22, [false]), (23, [false, false]), (26, [false, false]), (29, []), (30, [false]), (31, [false, false]), (34, [false, false]), (37, []), (38, [false]), (39, [false, false]), (42, [false, false]), (45, []), (46, []), (47, [false]), (48, [false, false]), (51, []), (52, [false]), (53, [false, false]), (56, [])])]
set_option maxRecDepth 100000 in
theorem bSEx : bitS PRG SEx GEx TEx = true := by decide +kernel
set_option maxRecDepth 100000 in
theorem gGEx : goodGZ ZEx GEx = true := by decide +kernel
set_option maxRecDepth 100000 in
theorem gAEx : goodAZ ZEx = true := by decide +kernel
def ClEx : List Nat := [12]
def SExm : List Nat := SEx ++ [1000, 1001]
set_option maxRecDepth 100000 in
theorem npEx : npS PRG SExm ClEx = true := by decide +kernel
def EEx : List Nat := [1, 2, 4, 5, 6, 7, 8, 9, 10, 11, 13, 14, 16, 18, 19, 20, 21, 23, 24, 25, 26, 27, 28, 29, 30, 31, 32, 33, 35, 36, 37, 38, 39, 40, 41, 42, 43, 44, 45, 47, 48, 49, 50, 51, 52, 53, 54, 55, 56, 57, 59, 60, 61, 62, 63, 64, 65, 66, 67, 68, 69, 71, 72, 73, 74, 76, 77, 78, 79, 80, 81, 82, 83, 84, 85, 86, 87, 88, 90, 92, 94, 95, 97, 98, 99, 100, 101, 102, 103, 104, 105, 106, 107, 108, 109, 110, 111, 112, 113, 117, 118, 119, 120, 121, 122, 123, 124, 125, 126, 127, 128, 129, 130, 131, 132, 133, 134, 135, 136, 137, 138, 139, 140, 141, 142, 143, 144, 145, 146, 147, 148, 149, 150, 151, 152, 153, 154, 155, 156, 157]
theorem frEx {n mi : Nat} {av : List Value} {σ σ1 : Sg} {v : Option Value} (h : RCx PRG n mi av σ v σ1) (hm : SEx.contains mi = true) (hm2 : SExm.contains mi = true) (ha : nZs ZEx av = true) : exc EEx σ σ1 := by
  have cov : ∀ q, q < 158 → EEx.contains q = false → ZEx.contains q = true ∨ (match knd q with
    | some (0, c, _) => !(ClEx.contains c)
    | _ => false) = true := by decide +kernel
  intro q hq hE j
  rcases cov q hq hE with g | g
  · exact h.bits gGEx gAEx bSEx hm ha q g j
  · split at g
    · rename_i c fs hk
      exact h.np hk (by simpa using g) npEx hm2 j
    · cases g
set_option maxRecDepth 100000 in
theorem nfEx30 : nfS PRG SExm 12 30 = true := by decide +kernel
def Wn (σ σ1 : Sg) : Prop := (σ.1 97 30).toInt ≤ (σ1.1 97 30).toInt ∧ ∀ q j : Nat, 114 ≤ q → q ≤ 116 → ((j : Int) < (σ.1 97 30).toInt ∨ (σ1.1 97 30).toInt < (j : Int)) → σ1.1 q j = σ.1 q j
theorem Wn.refl (σ : Sg) : Wn σ σ := ⟨Int.le_refl _, fun _ _ _ _ _ => rfl⟩
theorem Wn.trans {σ σ1 σ2 : Sg} (h : Wn σ σ1) (h' : Wn σ1 σ2) : Wn σ σ2 := by
  have a := h.1
  have b := h'.1
  exact ⟨by omega, fun q j c d e => (h'.2 q j c d (by omega)).trans (h.2 q j c d (by omega))⟩
theorem Wn.of {σ σ1 : Sg} (e : σ1.1 97 30 = σ.1 97 30) (f : ∀ q j : Nat, 114 ≤ q → q ≤ 116 → σ1.1 q j = σ.1 q j) : Wn σ σ1 := ⟨by rw [e]; exact Int.le_refl _, fun q j a b _ => f q j a b⟩
theorem Wn.put {σ σ1 : Sg} {q k : Nat} {x : Int32} (h : Wn σ σ1) (hq : ¬ (114 ≤ q ∧ q ≤ 116)) (hk : ¬ (q = 97 ∧ k = 30)) : Wn σ (s1 σ1 q k x) := h.trans (Wn.of (by rw [s1_off (by omega)]) (fun q' j a b => by rw [s1_off (by omega)]))
theorem Wn.put2 {σ σ1 : Sg} {q k : Nat} {x : Int64} (h : Wn σ σ1) : Wn σ (s2 σ1 q k x) := h
theorem FRt.w {σ σ1 : Sg} (h : FRt σ σ1) : Wn σ σ1 := Wn.of (h.2 97 30 (by omega)) (fun q j a b => h.2 q j (by omega))
theorem FRq.w {σ σ1 : Sg} (h : FRq σ σ1) : Wn σ σ1 := Wn.of h.2.1 (fun q j a b => h.2.2.2 q j (by omega) (by omega))
theorem Wn.lit {σ : Sg} {a b c d e f : Int32} (h : inR (σ.1 97 30) 300 = true) : Wn σ (s1 (s1 (s1 (s1 (s1 (s1 (s1 σ 114 (σ.1 97 30).toNatClampNeg a) 115 (σ.1 97 30).toNatClampNeg b) 116 (σ.1 97 30).toNatClampNeg c) 117 (σ.1 97 30).toNatClampNeg d) 118 (σ.1 97 30).toNatClampNeg e) 119 (σ.1 97 30).toNatClampNeg f) 97 30 ((σ.1 97 30) + (1 : Int32))) := by
  obtain ⟨h1, h2⟩ := inR_lo h
  have e1 : (σ.1 97 30 + (1 : Int32)).toInt = (σ.1 97 30).toInt + 1 := by
    exact add_lit rfl (by decide) (by unfold FL; omega) (by unfold FH; omega)
  refine ⟨by rw [s1_on, e1]; omega, fun q j p1 p2 hj => ?_⟩
  rw [s1_on, e1] at hj
  have hc : ¬ j = (σ.1 97 30).toNatClampNeg := by
    intro e
    have : ((σ.1 97 30).toNatClampNeg : Int) = (σ.1 97 30).toInt := by
      show (((σ.1 97 30).toInt.toNat : Nat) : Int) = _
      omega
    omega
  iterate 7 rw [s1_off (by omega)]
section Tw
variable {n : Nat} {σ σ1 : Sg} {v : Option Value} {x y : Int32}
theorem te199w (h : RCx PRG n 199 [.ref 97] σ v σ1) : Wn σ σ1 := by
  have f := frEx h (by decide) (by decide) rfl
  exact Wn.of (h.fldQ (q0 := 97) (c := 12) (k0 := 30) rfl nfEx30 (by decide)) (fun q j a b => f q (by omega) (by rcases (show q = 114 ∨ q = 115 ∨ q = 116 by omega) with rfl | rfl | rfl <;> rfl) j)
theorem te200w (h : RCx PRG n 200 [.ref 97, .int x] σ v σ1) : Wn σ σ1 := by
  have w85 : ∀ d m a b c e σ2, Wn σ σ2 → Pl PRG m d 200 85 [(0, .ref 97), (1, .int a), (2, .int b), (3, .int c), (4, .int e)] [] σ2 (fun _ σ' => Wn σ σ') := fun d m a b c e σ2 hf => Pl.pos (fun m2 _ => p_200_85 σ2 a b c e (fun σ3 h3 σ4 h4 => ⟨fun _ i30 _ _ _ _ _ => ((hf.trans (te192 h3).w).trans (te199w h4)).trans (Wn.lit i30), fun _ => (hf.trans (te192 h3).w).trans (te199w h4)⟩))
  have w80 : ∀ d m a b c e σ2, Wn σ σ2 → Pl PRG m d 200 80 [(0, .ref 97), (1, .int a), (2, .int b), (3, .int c), (4, .int e)] [] σ2 (fun _ σ' => Wn σ σ') := fun d m a b c e σ2 hf => Pl.pos (fun m2 _ => p_200_80 σ2 a b c e (fun σ3 h3 => w85 d m2 a b c e σ3 (hf.trans (te190 h3).w)))
  have loop : ∀ d m b σ2, Wn σ σ2 → Pl PRG m d 200 2 [(0, .ref 97), (1, .int x), (2, .int b)] [] σ2 (fun _ σ' => Wn σ σ') := by
    intro d m
    induction m using Nat.strongRecOn with
    | _ m ih =>
      intro b σ2 hf
      refine Pl.pos (fun m2 hm2 => p_200_2 σ2 x b (fun w3 σ3 h3 _ => ?_))
      have e3 := te189 h3
      subst e3
      refine ⟨fun _ σ4 h4 => ?_, fun _ => ⟨fun _ σ5 h5 => ih m2 (by omega) _ σ5 (hf.trans (te192 h5).w), fun _ σ5 h5 => ih m2 (by omega) _ σ5 (hf.trans (te192 h5).w)⟩⟩
      have g4 := hf.trans (te199w h4)
      exact ⟨fun _ _ => ⟨fun _ => ⟨fun _ => w80 d m2 _ _ _ _ σ4 g4, fun _ => ⟨fun _ => w85 d m2 _ _ _ _ σ4 g4, fun _ => w80 d m2 _ _ _ _ σ4 g4⟩⟩, fun _ => w85 d m2 _ _ _ _ σ4 g4⟩, fun _ => ⟨fun _ => w85 d m2 _ _ _ _ σ4 g4, fun _ => w85 d m2 _ _ _ _ σ4 g4⟩⟩
  exact h.by (Q := fun _ σ' => Wn σ σ') (fun m d => p_200_0 σ x (loop d m 0 σ (Wn.refl σ)))
theorem te201w (h : RCx PRG n 201 [.ref 97] σ v σ1) : Wn σ σ1 := by
  have loop : ∀ d m a b σ2, Wn σ σ2 → Pl PRG m d 201 8 [(0, .ref 97), (1, .int a), (2, .int b)] [] σ2 (fun _ σ' => Wn σ σ') := by
    intro d m
    induction m using Nat.strongRecOn with
    | _ m ih =>
      intro a b σ2 hf
      have e61 : ∀ m2 σ3, Wn σ σ3 → Pl PRG m2 d 201 61 [] [] σ3 (fun _ σ' => Wn σ σ') := fun m2 σ3 hg => Pl.pos (fun m3 _ => p_201_61 σ3 hg)
      refine Pl.pos (fun m2 hm2 => p_201_8 σ2 a b ⟨fun _ => e61 m2 σ2 hf, fun _ => ⟨fun _ σ3 h3 w4 σ4 h4 _ => ?_, fun _ => e61 m2 σ2 hf⟩⟩)
      have e4 := te189 h4
      subst e4
      have g := hf.trans (te200w h3)
      have e44 : ∀ m3, m3 < m → ∀ c σ5, Wn σ σ5 → Pl PRG m3 d 201 44 [(0, .ref 97), (1, .int c)] [] σ5 (fun _ σ' => Wn σ σ') := fun m3 hm3 c σ5 hg => Pl.pos (fun m4 hm4 => p_201_44 σ5 c (fun σ6 h6 => ih m4 (by omega) _ _ σ6 (hg.trans (te192 h6).w)))
      refine ⟨fun _ w5 σ5 h5 _ => ?_, fun _ => e44 m2 (by omega) _ σ4 g⟩
      have e5 := te189 h5
      subst e5
      exact ⟨fun _ => ih m2 (by omega) _ _ σ5 g, fun _ => e44 m2 (by omega) _ σ5 g⟩
  exact h.by (Q := fun _ σ' => Wn σ σ') (fun m d => p_201_0 σ (fun σ2 h2 => loop d m _ _ σ2 (te192 h2).w))
theorem te202w (h : RCx PRG n 202 [.ref 97] σ v σ1) : Wn σ σ1 := by
  have w235 : ∀ d m a b σ2, Wn σ σ2 → Pl PRG m d 202 235 [(0, .ref 97), (1, .int a), (2, .int b)] [] σ2 (fun _ σ' => Wn σ σ') := fun d m a b σ2 hf => Pl.pos (fun m2 _ => p_202_235 σ2 a b (fun _ σ3 h3 => ⟨fun _ _ _ _ _ => (((((hf.put (by omega) (by omega)).trans (te193 h3).w).put2).put (by omega) (by omega)).put (by omega) (by omega)), fun _ => (hf.put (by omega) (by omega)).trans (te193 h3).w⟩))
  have w224 : ∀ d m a b σ2, Wn σ σ2 → Pl PRG m d 202 224 [(0, .ref 97), (1, .int a), (2, .int b)] [] σ2 (fun _ σ' => Wn σ σ') := fun d m a b σ2 hf => Pl.pos (fun m2 _ => p_202_224 σ2 a b ⟨fun _ σ3 h3 => w235 d m2 a b σ3 (hf.trans (te201w h3)), fun _ => w235 d m2 a b σ2 hf⟩)
  have w184 : ∀ d m a b σ2, Wn σ σ2 → Pl PRG m d 202 184 [(0, .ref 97), (1, .int a), (2, .int b)] [] σ2 (fun _ σ' => Wn σ σ') := fun d m a b σ2 hf => Pl.pos (fun m2 _ => p_202_184 σ2 a b (fun _ _ w3 σ3 h3 _ => by
    have e3 := te189 h3
    subst e3
    have g := (hf.put (q := 113) (k := ((2 : Int32) * a).toNatClampNeg) (x := σ2.1 97 30) (by omega) (by omega)).put (q := 112) (k := (((2 : Int32) * a) + (1 : Int32)).toNatClampNeg) (x := σ2.1 97 30) (by omega) (by omega)
    exact ⟨fun _ σ4 h4 => w224 d m2 a b σ4 (g.trans (te190 h4).w), fun _ => w224 d m2 a b _ g⟩))
  have w129 : ∀ d m a b σ2, Wn σ σ2 → Pl PRG m d 202 129 [(0, .ref 97), (1, .int a), (2, .int b)] [] σ2 (fun _ σ' => Wn σ σ') := fun d m a b σ2 hf => Pl.pos (fun m2 _ => p_202_129 σ2 a b ⟨fun _ _ _ σ3 h3 _ w4 σ4 h4 _ => by
    have e4 := te189 h4
    subst e4
    have g := ((hf.put (q := 111) (k := a.toNatClampNeg) (x := (σ2.1 100 (σ2.1 97 11).toNatClampNeg) - (23 : Int32)) (by omega) (by omega)).trans (te192 h3).w).put (q := 112) (k := ((2 : Int32) * a).toNatClampNeg) (x := σ3.1 97 30) (by omega) (by omega)
    exact ⟨fun _ => w184 d m2 a b _ g, fun _ σ5 h5 => w184 d m2 a b σ5 (g.trans (te201w h5))⟩, fun _ => hf⟩)
  have w124 : ∀ d m a b σ2, Wn σ σ2 → Pl PRG m d 202 124 [(0, .ref 97), (1, .int a), (2, .int b)] [] σ2 (fun _ σ' => Wn σ σ') := fun d m a b σ2 hf => Pl.pos (fun m2 _ => p_202_124 σ2 a b (fun σ3 h3 => w129 d m2 a b σ3 (hf.trans (te190 h3).w)))
  have w77 : ∀ d m a b σ2, Wn σ σ2 → Pl PRG m d 202 77 [(0, .ref 97), (1, .int a), (2, .int b)] [] σ2 (fun _ σ' => Wn σ σ') := fun d m a b σ2 hf => Pl.pos (fun m2 _ => p_202_77 σ2 a b (fun w3 σ3 h3 _ => by
    have g := (hf.trans (te194 h3).w).put (q := 110) (k := a.toNatClampNeg) (x := w3) (by omega) (by omega)
    exact ⟨fun _ => w124 d m2 a b _ g, fun _ _ => ⟨fun _ => w124 d m2 a b _ g, fun _ _ => ⟨fun _ => w129 d m2 a b _ g, fun _ => w124 d m2 a b _ g⟩⟩⟩))
  have loop : ∀ d m a b c σ2, Wn σ σ2 → Pl PRG m d 202 34 [(0, .ref 97), (1, .int a), (2, .int b), (3, .int c)] [] σ2 (fun _ σ' => Wn σ σ') := by
    intro d m
    induction m using Nat.strongRecOn with
    | _ m ih =>
      intro a b c σ2 hf
      refine Pl.pos (fun m2 hm2 => p_202_34 σ2 a b c ?_)
      have e71 : ∀ σ3, Wn σ σ3 → Pl PRG m2 d 202 71 [(0, .ref 97), (1, .int a), (2, .int b), (3, .int c)] [] σ3 (fun _ σ' => Wn σ σ') := fun σ3 hg => Pl.pos (fun m4 hm4 => p_202_71 σ3 a b c (ih m4 (by omega) _ _ _ σ3 hg))
      exact ⟨fun _ => w77 d m2 a b σ2 hf, fun _ => ⟨fun _ _ _ => ⟨fun _ σ3 h3 => e71 σ3 (hf.trans (te191 h3).w), fun _ => e71 σ2 hf⟩, fun _ => w77 d m2 a b σ2 hf⟩⟩
  exact h.by (Q := fun _ σ' => Wn σ σ') (fun m d => p_202_0 σ (fun _ σ2 h2 σ3 h3 => loop d m _ _ _ σ3 ((te192 h2).w.trans (te193 h3).w)))
theorem te203w (h : RCx PRG n 203 [.ref 97] σ v σ1) : Wn σ σ1 := by
  by_cases hk : (σ.1 100 (σ.1 97 11).toNatClampNeg).toInt = 22
  · have e194 : ∀ d m σ2, Wn σ σ2 → Pl PRG m d 203 194 [(0, .ref 97)] [] σ2 (fun _ σ' => Wn σ σ') := fun d m σ2 hf => Pl.pos (fun m2 _ => p_203_194 σ2 ⟨fun _ σ3 h3 => Pl.pos (fun m3 _ => p_203_213 σ3 (hf.trans (te202w h3))), fun _ => Pl.pos (fun m3 _ => p_203_213 σ2 hf)⟩)
    exact h.by (Q := fun _ σ' => Wn σ σ') (fun m d => p_203_0 σ (fun _ => ⟨fun c => absurd c (by omega), fun c => absurd c (by omega), fun c => absurd c (by omega), fun _ _ => ⟨fun _ σ2 h2 => e194 d m σ2 (te190 h2).w, fun _ => e194 d m σ (Wn.refl σ)⟩⟩))
  · exact (te203 h hk).w
theorem te188k (h : RCx PRG n 188 [.ref 97] σ v σ1) : (∀ q j : Nat, 114 ≤ q → q ≤ 116 → σ1.1 q j = σ.1 q j) ∧ σ1.1 97 18 = σ.1 97 18 := ⟨fun q j a b => h.bits gGCr gACr bSCr (by decide) rfl q (by rcases (show q = 114 ∨ q = 115 ∨ q = 116 by omega) with rfl | rfl | rfl <;> rfl) j, h.fldQ (q0 := 97) (c := 12) (k0 := 18) rfl nfCr18 (by decide)⟩
/-- read, whatever it answers -/
def Wr (lv : Nat) (σ σ1 : Sg) : Prop := ∀ q j : Nat, 114 ≤ q → q ≤ 116 → (j < 150 * (1 - lv) ∨ (σ1.1 97 30).toInt < (j : Int)) → σ1.1 q j = σ.1 q j
theorem read_w {lv : Nat} (h : RCx PRG n 204 [.ref 97] σ v σ1) (hlv : σ.1 97 18 = nI lv) (hl2 : lv < 2) : Wr lv σ σ1 := by
  have m150 : (150 : Int32) * ((1 : Int32) - nI lv) = nI (150 * (1 - lv)) := by
    rcases (show lv = 0 ∨ lv = 1 by omega) with rfl | rfl <;> decide
  have loop : ∀ d m k σ2, (∀ q j : Nat, 114 ≤ q → q ≤ 116 → σ2.1 q j = σ.1 q j) → σ2.1 97 18 = nI lv → Pl PRG m d 204 10 [(0, .ref 97), (1, .int k)] [] σ2 (fun _ σ' => Wr lv σ σ') := by
    intro d m
    induction m using Nat.strongRecOn with
    | _ m ih =>
      intro k σ2 hf h18
      refine Pl.pos (fun m2 hm2 => p_204_10 σ2 k ⟨fun _ σ3 h3 => ?_, fun _ _ _ => ih m2 (by omega) _ _ (fun q j a b => by rw [s1_off (by omega)]; exact hf q j a b) (by rw [s1_off (by omega)]; exact h18)⟩)
      obtain ⟨k1, k2⟩ := te188k h3
      have e18 : σ3.1 97 18 = nI lv := by rw [k2, s1_off (by omega)]; exact h18
      rw [e18, m150]
      intro _ _ _ _
      have main : ∀ m3 σ4, Wn (s1 σ 97 30 (nI (150 * (1 - lv)))) σ4 → Pl PRG m3 d 204 144 [(0, .ref 97)] [] σ4 (fun _ σ' => Wr lv σ σ') := by
        intro m3
        induction m3 using Nat.strongRecOn with
        | _ m3 ih3 =>
          intro σ4 hg
          have fin : ∀ σ5, Wn (s1 σ 97 30 (nI (150 * (1 - lv)))) σ5 → Wr lv σ σ5 := fun σ5 hw q j a b hj => by
            have := hw.2 q j a b (by
              rw [s1_on, nI_toInt (by omega)]
              rcases hj with c | c
              · left; omega
              · right; exact c)
            rw [this, s1_off (by omega)]
          have e166 : ∀ m5 σ5, Wn (s1 σ 97 30 (nI (150 * (1 - lv)))) σ5 → Pl PRG m5 d 204 166 [(0, .ref 97)] [] σ5 (fun _ σ' => Wr lv σ σ') := fun m5 σ5 hw => Pl.pos (fun m6 _ => p_204_166 σ5 (by
            have bad : ∀ x, Wr lv σ (s1 σ5 97 17 x) := fun x => fin _ (hw.put (by omega) (by omega))
            have good : ∀ x, Wr lv σ (s1 (s1 (s1 (s1 (s1 (s1 (s1 σ5 97 17 x) 97 18 (σ5.1 97 19)) 97 45 (0 : Int32)) 97 48 (0 : Int32)) 97 86 (0 : Int32)) 152 0 (vp_nar .boolean (0 : Int32))) 152 1 (vp_nar .boolean (0 : Int32))) := fun x => fin _ (((((((hw.put (by omega) (by omega)).put (by omega) (by omega)).put (by omega) (by omega)).put (by omega) (by omega)).put (by omega) (by omega)).put (by omega) (by omega)).put (by omega) (by omega))
            exact ⟨fun _ => ⟨fun _ => ⟨fun _ => ⟨fun _ => good _, fun _ => bad _⟩, fun _ => bad _⟩, fun _ => ⟨fun _ => ⟨fun _ => good _, fun _ => bad _⟩, fun _ => bad _⟩⟩, fun _ => ⟨fun _ => ⟨fun _ => good _, fun _ => bad _⟩, fun _ => bad _⟩⟩))
          refine Pl.pos (fun m5 hm5 => p_204_144 σ4 ⟨fun _ w6 σ6 h6 _ => ?_, fun _ => e166 m5 σ4 hg⟩)
          have e6 := te189 h6
          subst e6
          exact ⟨fun _ σ7 h7 => ih3 m5 (by omega) σ7 (hg.trans (te203w h7)), fun _ => e166 m5 σ6 hg⟩
      refine main m2 _ ⟨?_, fun q j a b _ => ?_⟩
      · rw [s1_on, s1_off (by omega), s1_on]; exact Int.le_refl _
      · iterate 13 rw [s1_off (by omega)]
        rw [k1 q j a b, s1_off (by omega)]
        exact hf q j a b
  exact h.by (Q := fun _ σ' => Wr lv σ σ') (fun m d => p_204_0 σ (loop d m 0 _ (fun q j a b => by rw [s1_off (by omega)]) (by rw [s1_off (by omega)]; exact hlv)))
end Tw
