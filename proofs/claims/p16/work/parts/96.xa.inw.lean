/-! what a run that ends has done: in, read of the class -/
set_option maxRecDepth 100000 in
theorem p_195_0 {n d : Nat} {Q : Option Value → Sg → Prop} (σ : Sg) (x0 x1 x2 : Int32) (h : ((x0 < x1 → Q (some (.int (0 : Int32))) σ) ∧ (¬ x0 < x1 → ((x2 < x0 → Q (some (.int (0 : Int32))) σ) ∧ (¬ x2 < x0 → Q (some (.int (1 : Int32))) σ))))) : Pl PRG (n + 1) d 195 0 [(0, .int x0), (1, .int x1), (2, .int x2)] [] σ Q := by
  have hM : PRG[195]? = some M_195 := rfl
  refine Pl.br1 (c := x0 < x1) (a := 14) (b := 5) (ls' := [(0, .int x0), (1, .int x1), (2, .int x2)]) (st' := []) (σ' := σ) hM 2 rfl (fun c => ?_) (fun c => ?_)
  · replace h := h.1 c
    refine Pl.seg (pc' := 15) (ls' := [(0, .int x0), (1, .int x1), (2, .int x2)]) (st' := [.int (0 : Int32)]) (σ' := σ) hM 1 rfl ?_
    refine Pl.weak (Pl.ret hM rfl rfl h)
  · replace h := h.2 c
    refine Pl.br (c := x2 < x0) (a := 14) (b := 10) (ls' := [(0, .int x0), (1, .int x1), (2, .int x2)]) (st' := []) (σ' := σ) hM 3 rfl (fun c => ?_) (fun c => ?_)
    · replace h := h.1 c
      refine Pl.seg (pc' := 15) (ls' := [(0, .int x0), (1, .int x1), (2, .int x2)]) (st' := [.int (0 : Int32)]) (σ' := σ) hM 1 rfl ?_
      refine Pl.weak (Pl.ret hM rfl rfl h)
    · replace h := h.2 c
      refine Pl.seg (pc' := 15) (ls' := [(0, .int x0), (1, .int x1), (2, .int x2)]) (st' := [.int (1 : Int32)]) (σ' := σ) hM 2 rfl ?_
      refine Pl.weak (Pl.ret hM rfl rfl h)
set_option maxRecDepth 100000 in
theorem p_124_0 {n d : Nat} {Q : Option Value → Sg → Prop} (σ : Sg) (h : (∀ σ1, RCx PRG n 100 [.ref 15, .ref 1, .int (σ.1 0 1)] σ none σ1 → (∀ w3 σ2, RCx PRG n 114 [.ref 15, .int (0 : Int32)] (s1 σ1 0 1 (0 : Int32)) (some (.int w3)) σ2 → ((w3 = 0 → (∀ σ4, RCx PRG n 71 [.ref 3] σ2 none σ4 → (∀ w6 σ5, RCx PRG n 114 [.ref 15, .int (1 : Int32)] σ4 (some (.int w6)) σ5 → (∀ σ7, RCx PRG n 75 [.ref 3] σ5 none σ7 → (∀ σ8, RCx PRG n 123 [.ref 0] σ7 none σ8 → Q (some (.int w3)) σ8))))) ∧ (¬ w3 = 0 → Q (some (.int w3)) σ2))))) : Pl PRG (n + 1) d 124 0 [(0, .ref 0)] [] σ Q := by
  have hM : PRG[124]? = some M_124 := rfl
  refine Pl.sg1 (pc' := 12) (ls' := [(0, .ref 0)]) (st' := [.int (σ.1 0 1), .ref 1, .ref 15]) (σ' := σ) hM 5 rfl ?_
  refine Pl.weak (Pl.cV hM rfl rfl (by decide) (Mj := M_100) rfl rfl (fun σ1 hw => ?_))
  replace h := h σ1 hw
  refine Pl.seg (pc' := 25) (ls' := [(0, .ref 0)]) (st' := [.int (0 : Int32), .ref 15]) (σ' := (s1 σ1 0 1 (0 : Int32))) hM 6 rfl ?_
  refine Pl.weak (Pl.cI hM rfl rfl (by decide) (Mj := M_114) rfl rfl (fun w3 σ2 hw => ?_))
  replace h := h w3 σ2 hw
  refine Pl.brN (c := w3 = 0) (a := 60) (b := 33) (ls' := [(1, .int w3), (0, .ref 0)]) (st' := []) (σ' := σ2) hM 3 rfl (fun c => ?_) (fun c => ?_)
  · replace h := h.2 c
    refine Pl.seg (pc' := 61) (ls' := [(1, .int w3), (0, .ref 0)]) (st' := [.int w3]) (σ' := σ2) hM 1 rfl ?_
    refine Pl.weak (Pl.ret hM rfl rfl h)
  · replace h := h.1 c
    refine Pl.seg (pc' := 37) (ls' := [(1, .int w3), (0, .ref 0)]) (st' := [.ref 3]) (σ' := σ2) hM 2 rfl ?_
    refine Pl.weak (Pl.cV hM rfl rfl (by decide) (Mj := M_71) rfl rfl (fun σ4 hw => ?_))
    replace h := h σ4 hw
    refine Pl.seg (pc' := 45) (ls' := [(1, .int w3), (0, .ref 0)]) (st' := [.int (1 : Int32), .ref 15]) (σ' := σ4) hM 3 rfl ?_
    refine Pl.weak (Pl.cI hM rfl rfl (by decide) (Mj := M_114) rfl rfl (fun w6 σ5 hw => ?_))
    replace h := h w6 σ5 hw
    refine Pl.seg (pc' := 53) (ls' := [(1, .int w3), (0, .ref 0)]) (st' := [.ref 3]) (σ' := σ5) hM 3 rfl ?_
    refine Pl.weak (Pl.cV hM rfl rfl (by decide) (Mj := M_75) rfl rfl (fun σ7 hw => ?_))
    replace h := h σ7 hw
    refine Pl.seg (pc' := 57) (ls' := [(1, .int w3), (0, .ref 0)]) (st' := [.ref 0]) (σ' := σ7) hM 1 rfl ?_
    refine Pl.weak (Pl.cV hM rfl rfl (by decide) (Mj := M_123) rfl rfl (fun σ8 hw => ?_))
    replace h := h σ8 hw
    refine Pl.seg (pc' := 61) (ls' := [(1, .int w3), (0, .ref 0)]) (st' := [.int w3]) (σ' := σ8) hM 1 rfl ?_
    refine Pl.weak (Pl.ret hM rfl rfl h)
set_option maxRecDepth 100000 in
theorem p_71_0 {n d : Nat} {Q : Option Value → Sg → Prop} (σ : Sg) (h : Q none (s1 (s1 (s1 (s1 (s1 σ 3 0 (4 : Int32)) 3 1 (4 : Int32)) 3 2 (-1 : Int32)) 3 3 (0 : Int32)) 3 9 (0 : Int32))) : Pl PRG (n + 1) d 71 0 [(0, .ref 3)] [] σ Q := by
  have hM : PRG[71]? = some M_71 := rfl
  refine Pl.sg1 (pc' := 25) (ls' := [(0, .ref 3)]) (st' := []) (σ' := (s1 (s1 (s1 (s1 (s1 σ 3 0 (4 : Int32)) 3 1 (4 : Int32)) 3 2 (-1 : Int32)) 3 3 (0 : Int32)) 3 9 (0 : Int32))) hM 14 rfl ?_
  refine Pl.weak (Pl.ret hM rfl rfl h)
set_option maxRecDepth 100000 in
theorem p_125_0 {n d : Nat} {Q : Option Value → Sg → Prop} (σ : Sg) (h : Q (some (.int (σ.1 15 8))) σ) : Pl PRG (n + 1) d 125 0 [(0, .ref 0)] [] σ Q := by
  have hM : PRG[125]? = some M_125 := rfl
  refine Pl.sg1 (pc' := 7) (ls' := [(0, .ref 0)]) (st' := [.int (σ.1 15 8)]) (σ' := σ) hM 2 rfl ?_
  refine Pl.weak (Pl.ret hM rfl rfl h)
set_option maxRecDepth 100000 in
theorem p_205_0 {n d : Nat} {Q : Option Value → Sg → Prop} (σ : Sg) (h : Q (some (.int (σ.1 97 17))) σ) : Pl PRG (n + 1) d 205 0 [(0, .ref 97)] [] σ Q := by
  have hM : PRG[205]? = some M_205 := rfl
  refine Pl.sg1 (pc' := 4) (ls' := [(0, .ref 97)]) (st' := [.int (σ.1 97 17)]) (σ' := σ) hM 1 rfl ?_
  refine Pl.weak (Pl.ret hM rfl rfl h)
