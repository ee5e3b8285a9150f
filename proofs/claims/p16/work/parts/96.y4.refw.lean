/-! what a run that ends has done: the games of the reference -/
set_option maxRecDepth 100000 in
theorem p_210_0 {n d : Nat} {Q : Option Value → Sg → Prop} (σ : Sg) (h : (inR (σ.1 97 18) 2 = true → (inR (σ.1 97 18) 2 = true → Q (some (.int ((σ.1 106 (σ.1 97 18).toNatClampNeg) * (σ.1 107 (σ.1 97 18).toNatClampNeg)))) σ))) : Pl PRG (n + 1) d 210 0 [(0, .ref 97)] [] σ Q := by
  have hM : PRG[210]? = some M_210 := rfl
  refine Pl.sg1 (pc' := 8) (ls' := [(0, .ref 97)]) (st' := [.int (σ.1 97 18), .ref 106]) (σ' := σ) hM 3 rfl ?_
  refine Pl.weak (Pl.iald hM rfl rfl (fun hi => ?_))
  replace h := h hi
  refine Pl.seg (pc' := 17) (ls' := [(0, .ref 97)]) (st' := [.int (σ.1 97 18), .ref 107, .int (σ.1 106 (σ.1 97 18).toNatClampNeg)]) (σ' := σ) hM 4 rfl ?_
  refine Pl.weak (Pl.iald hM rfl rfl (fun hi => ?_))
  replace h := h hi
  refine Pl.seg (pc' := 19) (ls' := [(0, .ref 97)]) (st' := [.int ((σ.1 106 (σ.1 97 18).toNatClampNeg) * (σ.1 107 (σ.1 97 18).toNatClampNeg))]) (σ' := σ) hM 1 rfl ?_
  refine Pl.weak (Pl.ret hM rfl rfl h)
set_option maxRecDepth 100000 in
theorem p_211_0 {n d : Nat} {Q : Option Value → Sg → Prop} (σ : Sg) (h : (∀ w2 σ1, RCx PRG n 210 [.ref 97] σ (some (.int w2)) σ1 → Q (some (.int (w2 / (4 : Int32)))) σ1)) : Pl PRG (n + 1) d 211 0 [(0, .ref 97)] [] σ Q := by
  have hM : PRG[211]? = some M_211 := rfl
  refine Pl.sg1 (pc' := 1) (ls' := [(0, .ref 97)]) (st' := [.ref 97]) (σ' := σ) hM 0 rfl ?_
  refine Pl.weak (Pl.cI hM rfl rfl (by decide) (Mj := M_210) rfl rfl (fun w2 σ1 hw => ?_))
  replace h := h w2 σ1 hw
  refine Pl.seg (pc' := 6) (ls' := [(0, .ref 97)]) (st' := [.int (w2 / (4 : Int32))]) (σ' := σ1) hM 2 rfl ?_
  refine Pl.weak (Pl.ret hM rfl rfl h)
set_option maxRecDepth 100000 in
theorem p_212_0 {n d : Nat} {Q : Option Value → Sg → Prop} (σ : Sg) (x1 : Int32) (h : (inR (σ.1 97 18) 2 = true → (¬ (σ.1 107 (σ.1 97 18).toNatClampNeg) = 0 → Q (some (.int (x1 / (σ.1 107 (σ.1 97 18).toNatClampNeg)))) σ))) : Pl PRG (n + 1) d 212 0 [(0, .ref 97), (1, .int x1)] [] σ Q := by
  have hM : PRG[212]? = some M_212 := rfl
  refine Pl.sg1 (pc' := 9) (ls' := [(0, .ref 97), (1, .int x1)]) (st' := [.int (σ.1 97 18), .ref 107, .int x1]) (σ' := σ) hM 4 rfl ?_
  refine Pl.weak (Pl.iald hM rfl rfl (fun hi => ?_))
  replace h := h hi
  refine Pl.weak (Pl.dv hM rfl (fun hi => ?_))
  replace h := h hi
  refine Pl.weak (Pl.ret hM rfl rfl h)
set_option maxRecDepth 100000 in
theorem p_213_0 {n d : Nat} {Q : Option Value → Sg → Prop} (σ : Sg) (x1 : Int32) (h : (inR (σ.1 97 18) 2 = true → (¬ (σ.1 107 (σ.1 97 18).toNatClampNeg) = 0 → Q (some (.int (x1 - x1 / (σ.1 107 (σ.1 97 18).toNatClampNeg) * (σ.1 107 (σ.1 97 18).toNatClampNeg)))) σ))) : Pl PRG (n + 1) d 213 0 [(0, .ref 97), (1, .int x1)] [] σ Q := by
  have hM : PRG[213]? = some M_213 := rfl
  refine Pl.sg1 (pc' := 9) (ls' := [(0, .ref 97), (1, .int x1)]) (st' := [.int (σ.1 97 18), .ref 107, .int x1]) (σ' := σ) hM 4 rfl ?_
  refine Pl.weak (Pl.iald hM rfl rfl (fun hi => ?_))
  replace h := h hi
  refine Pl.weak (Pl.rm hM rfl (fun hi => ?_))
  replace h := h hi
  refine Pl.weak (Pl.ret hM rfl rfl h)
set_option maxRecDepth 100000 in
theorem p_214_0 {n d : Nat} {Q : Option Value → Sg → Prop} (σ : Sg) (h : (inR (σ.1 97 18) 2 = true → (inR (σ.1 97 18) 2 = true → (((σ.1 106 (σ.1 97 18).toNatClampNeg) ≤ (σ.1 108 (σ.1 97 18).toNatClampNeg) → Q (some (.int (-1 : Int32))) σ) ∧ (¬ (σ.1 106 (σ.1 97 18).toNatClampNeg) ≤ (σ.1 108 (σ.1 97 18).toNatClampNeg) → (inR (σ.1 97 18) 2 = true → Q (some (.int (σ.1 108 (σ.1 97 18).toNatClampNeg))) σ)))))) : Pl PRG (n + 1) d 214 0 [(0, .ref 97)] [] σ Q := by
  have hM : PRG[214]? = some M_214 := rfl
  refine Pl.sg1 (pc' := 8) (ls' := [(0, .ref 97)]) (st' := [.int (σ.1 97 18), .ref 108]) (σ' := σ) hM 3 rfl ?_
  refine Pl.weak (Pl.iald hM rfl rfl (fun hi => ?_))
  replace h := h hi
  refine Pl.seg (pc' := 17) (ls' := [(0, .ref 97)]) (st' := [.int (σ.1 97 18), .ref 106, .int (σ.1 108 (σ.1 97 18).toNatClampNeg)]) (σ' := σ) hM 4 rfl ?_
  refine Pl.weak (Pl.iald hM rfl rfl (fun hi => ?_))
  replace h := h hi
  refine Pl.br (c := (σ.1 106 (σ.1 97 18).toNatClampNeg) ≤ (σ.1 108 (σ.1 97 18).toNatClampNeg)) (a := 33) (b := 21) (ls' := [(0, .ref 97)]) (st' := []) (σ' := σ) hM 1 rfl (fun c => ?_) (fun c => ?_)
  · replace h := h.1 c
    refine Pl.seg (pc' := 34) (ls' := [(0, .ref 97)]) (st' := [.int (-1 : Int32)]) (σ' := σ) hM 1 rfl ?_
    refine Pl.weak (Pl.ret hM rfl rfl h)
  · replace h := h.2 c
    refine Pl.seg (pc' := 29) (ls' := [(0, .ref 97)]) (st' := [.int (σ.1 97 18), .ref 108]) (σ' := σ) hM 4 rfl ?_
    refine Pl.weak (Pl.iald hM rfl rfl (fun hi => ?_))
    replace h := h hi
    refine Pl.seg (pc' := 34) (ls' := [(0, .ref 97)]) (st' := [.int (σ.1 108 (σ.1 97 18).toNatClampNeg)]) (σ' := σ) hM 1 rfl ?_
    refine Pl.weak (Pl.ret hM rfl rfl h)
def LV_195 : List (Nat × List Nat) := [(0, [0, 1, 2]), (1, [0, 1, 2]), (2, [0, 2]), (5, [0, 2]), (6, [2]), (7, []), (10, []), (11, []), (14, []), (15, [])]
set_option maxRecDepth 100000 in
theorem lv_195 : chkLv M_195 LV_195 = true := by decide +kernel
set_option maxRecDepth 100000 in
theorem lva_195_14 : lvA LV_195 14 = [] := by decide +kernel
set_option maxRecDepth 100000 in
theorem q_195_0 {n d : Nat} {Q : Option Value → Sg → Prop} (σ : Sg) (x0 x1 x2 : Int32) (h : ((x0 < x1 → Pl PRG n d 195 14 [] [] σ Q) ∧ (¬ x0 < x1 → ((x2 < x0 → Pl PRG n d 195 14 [] [] σ Q) ∧ (¬ x2 < x0 → Q (some (.int (1 : Int32))) σ))))) : Pl PRG (n + 1) d 195 0 [(0, .int x0), (1, .int x1), (2, .int x2)] [] σ Q := by
  have hM : PRG[195]? = some M_195 := rfl
  refine Pl.br1 (c := x0 < x1) (a := 14) (b := 5) (ls' := [(0, .int x0), (1, .int x1), (2, .int x2)]) (st' := []) (σ' := σ) hM 2 rfl (fun c => ?_) (fun c => ?_)
  · replace h := h.1 c
    exact Pl.live (l' := []) hM lv_195 ⟨show ndL _ from (by decide : List.Nodup ([0, 1, 2] : List Nat)), show ndL _ from (by decide : List.Nodup ([] : List Nat)), by rw [lva_195_14]; exact fun _ h => absurd h List.not_mem_nil⟩ h
  · replace h := h.2 c
    refine Pl.br (c := x2 < x0) (a := 14) (b := 10) (ls' := [(0, .int x0), (1, .int x1), (2, .int x2)]) (st' := []) (σ' := σ) hM 3 rfl (fun c => ?_) (fun c => ?_)
    · replace h := h.1 c
      exact Pl.live (l' := []) hM lv_195 ⟨show ndL _ from (by decide : List.Nodup ([0, 1, 2] : List Nat)), show ndL _ from (by decide : List.Nodup ([] : List Nat)), by rw [lva_195_14]; exact fun _ h => absurd h List.not_mem_nil⟩ h
    · replace h := h.2 c
      refine Pl.seg (pc' := 15) (ls' := [(0, .int x0), (1, .int x1), (2, .int x2)]) (st' := [.int (1 : Int32)]) (σ' := σ) hM 2 rfl ?_
      refine Pl.weak (Pl.ret hM rfl rfl h)
set_option maxRecDepth 100000 in
theorem q_195_14 {n d : Nat} {Q : Option Value → Sg → Prop} (σ : Sg) (h : Q (some (.int (0 : Int32))) σ) : Pl PRG (n + 1) d 195 14 [] [] σ Q := by
  have hM : PRG[195]? = some M_195 := rfl
  refine Pl.sg1 (pc' := 15) (ls' := []) (st' := [.int (0 : Int32)]) (σ' := σ) hM 0 rfl ?_
  refine Pl.weak (Pl.ret hM rfl rfl h)
set_option maxRecDepth 100000 in
theorem p_215_0 {n d : Nat} {Q : Option Value → Sg → Prop} (σ : Sg) (x1 : Int32) (h : (inR (σ.1 97 18) 2 = true → (∀ w2 σ1, RCx PRG n 195 [.int x1, .int (0 : Int32), .int ((σ.1 106 (σ.1 97 18).toNatClampNeg) - (1 : Int32))] σ (some (.int w2)) σ1 → (w2 = 0 ∨ w2 = 1) → ((w2 = 0 → Q (some (.int (0 : Int32))) σ1) ∧ (¬ w2 = 0 → (inR (σ1.1 97 18) 2 = true → (inR (σ1.1 97 18) 2 = true → Q (some (.int ((((1 : Int32) <<< ((σ1.1 107 (σ1.1 97 18).toNatClampNeg) &&& 31)) - (1 : Int32)) <<< ((x1 * (σ1.1 107 (σ1.1 97 18).toNatClampNeg)) &&& 31)))) σ1))))))) : Pl PRG (n + 1) d 215 0 [(0, .ref 97), (1, .int x1)] [] σ Q := by
  have hM : PRG[215]? = some M_215 := rfl
  refine Pl.sg1 (pc' := 10) (ls' := [(0, .ref 97), (1, .int x1)]) (st' := [.int (σ.1 97 18), .ref 106, .int (0 : Int32), .int x1]) (σ' := σ) hM 5 rfl ?_
  refine Pl.weak (Pl.iald hM rfl rfl (fun hi => ?_))
  replace h := h hi
  refine Pl.seg (pc' := 13) (ls' := [(0, .ref 97), (1, .int x1)]) (st' := [.int ((σ.1 106 (σ.1 97 18).toNatClampNeg) - (1 : Int32)), .int (0 : Int32), .int x1]) (σ' := σ) hM 2 rfl ?_
  refine Pl.weak (Pl.cZ hM rfl rfl (by decide) (Mj := M_195) rfl rfl (fun w2 σ1 hw hz => ?_))
  replace h := h w2 σ1 hw hz
  refine Pl.br (c := w2 = 0) (a := 47) (b := 19) (ls' := [(0, .ref 97), (1, .int x1)]) (st' := []) (σ' := σ1) hM 1 rfl (fun c => ?_) (fun c => ?_)
  · replace h := h.1 c
    refine Pl.seg (pc' := 48) (ls' := [(0, .ref 97), (1, .int x1)]) (st' := [.int (0 : Int32)]) (σ' := σ1) hM 1 rfl ?_
    refine Pl.weak (Pl.ret hM rfl rfl h)
  · replace h := h.2 c
    refine Pl.seg (pc' := 28) (ls' := [(0, .ref 97), (1, .int x1)]) (st' := [.int (σ1.1 97 18), .ref 107, .int (1 : Int32)]) (σ' := σ1) hM 5 rfl ?_
    refine Pl.weak (Pl.iald hM rfl rfl (fun hi => ?_))
    replace h := h hi
    refine Pl.seg (pc' := 41) (ls' := [(0, .ref 97), (1, .int x1)]) (st' := [.int (σ1.1 97 18), .ref 107, .int x1, .int (((1 : Int32) <<< ((σ1.1 107 (σ1.1 97 18).toNatClampNeg) &&& 31)) - (1 : Int32))]) (σ' := σ1) hM 8 rfl ?_
    refine Pl.weak (Pl.iald hM rfl rfl (fun hi => ?_))
    replace h := h hi
    refine Pl.seg (pc' := 48) (ls' := [(0, .ref 97), (1, .int x1)]) (st' := [.int ((((1 : Int32) <<< ((σ1.1 107 (σ1.1 97 18).toNatClampNeg) &&& 31)) - (1 : Int32)) <<< ((x1 * (σ1.1 107 (σ1.1 97 18).toNatClampNeg)) &&& 31))]) (σ' := σ1) hM 3 rfl ?_
    refine Pl.weak (Pl.ret hM rfl rfl h)
def LV_209 : List (Nat × List Nat) := [(0, [0]), (1, [0]), (2, [0, 1]), (3, [0, 1]), (4, [0, 1, 2]), (5, [0, 1, 2]), (7, [0, 1, 2]), (10, [0, 1, 2]), (11, [0, 2]), (12, [0, 2]), (13, [0, 2]), (14, [0, 2]), (15, [0, 2]), (16, [0, 2]), (17, [0, 2]), (18, [0, 1, 2]), (21, [0, 1, 2]), (24, [1]), (25, [])]
set_option maxRecDepth 100000 in
theorem lv_209 : chkLv M_209 LV_209 = true := by decide +kernel
set_option maxRecDepth 100000 in
theorem lva_209_4 : lvA LV_209 4 = [0, 1, 2] := by decide +kernel
set_option maxRecDepth 100000 in
theorem p_209_0 {n d : Nat} {Q : Option Value → Sg → Prop} (σ : Sg) (x0 : Int32) (h : Pl PRG n d 209 4 [(0, .int x0), (1, .int (0 : Int32)), (2, .int (0 : Int32))] [] σ Q) : Pl PRG (n + 1) d 209 0 [(0, .int x0)] [] σ Q := by
  have hM : PRG[209]? = some M_209 := rfl
  refine Pl.sg1 (pc' := 4) (ls' := [(2, .int (0 : Int32)), (1, .int (0 : Int32)), (0, .int x0)]) (st' := []) (σ' := σ) hM 3 rfl ?_
  exact Pl.live (l' := [(0, .int x0), (1, .int (0 : Int32)), (2, .int (0 : Int32))]) hM lv_209 ⟨show ndL _ from (by decide : List.Nodup ([2, 1, 0] : List Nat)), show ndL _ from (by decide : List.Nodup ([0, 1, 2] : List Nat)), by rw [lva_209_4]; exact List.forall_mem_cons.mpr ⟨rfl, List.forall_mem_cons.mpr ⟨rfl, List.forall_mem_cons.mpr ⟨rfl, fun _ h => absurd h List.not_mem_nil⟩⟩⟩⟩ h
set_option maxRecDepth 100000 in
theorem p_209_4 {n d : Nat} {Q : Option Value → Sg → Prop} (σ : Sg) (x0 x1 x2 : Int32) (h : (((16 : Int32) ≤ x2 → Q (some (.int x1)) σ) ∧ (¬ (16 : Int32) ≤ x2 → Pl PRG n d 209 4 [(0, .int x0), (1, .int (x1 + ((x0 >>> (x2 &&& 31)) &&& (1 : Int32)))), (2, .int (x2 + (1 : Int32)))] [] σ Q))) : Pl PRG (n + 1) d 209 4 [(0, .int x0), (1, .int x1), (2, .int x2)] [] σ Q := by
  have hM : PRG[209]? = some M_209 := rfl
  refine Pl.br1 (c := (16 : Int32) ≤ x2) (a := 24) (b := 10) (ls' := [(0, .int x0), (1, .int x1), (2, .int x2)]) (st' := []) (σ' := σ) hM 2 rfl (fun c => ?_) (fun c => ?_)
  · replace h := h.1 c
    refine Pl.seg (pc' := 25) (ls' := [(0, .int x0), (1, .int x1), (2, .int x2)]) (st' := [.int x1]) (σ' := σ) hM 1 rfl ?_
    refine Pl.weak (Pl.ret hM rfl rfl h)
  · replace h := h.2 c
    refine Pl.seg (pc' := 4) (ls' := [(2, .int (x2 + (1 : Int32))), (1, .int (x1 + ((x0 >>> (x2 &&& 31)) &&& (1 : Int32)))), (0, .int x0)]) (st' := []) (σ' := σ) hM 10 rfl ?_
    exact Pl.live (l' := [(0, .int x0), (1, .int (x1 + ((x0 >>> (x2 &&& 31)) &&& (1 : Int32)))), (2, .int (x2 + (1 : Int32)))]) hM lv_209 ⟨show ndL _ from (by decide : List.Nodup ([2, 1, 0] : List Nat)), show ndL _ from (by decide : List.Nodup ([0, 1, 2] : List Nat)), by rw [lva_209_4]; exact List.forall_mem_cons.mpr ⟨rfl, List.forall_mem_cons.mpr ⟨rfl, List.forall_mem_cons.mpr ⟨rfl, fun _ h => absurd h List.not_mem_nil⟩⟩⟩⟩ h
set_option maxRecDepth 100000 in
theorem p_216_0 {n d : Nat} {Q : Option Value → Sg → Prop} (σ : Sg) (x0 : Int32) (h : (∀ w2 σ1, RCx PRG n 195 [.int x0, .int (0 : Int32), .int (3 : Int32)] σ (some (.int w2)) σ1 → (w2 = 0 ∨ w2 = 1) → ((w2 = 0 ∨ w2 = 1) → Q (some (.int w2)) σ1))) : Pl PRG (n + 1) d 216 0 [(0, .int x0)] [] σ Q := by
  have hM : PRG[216]? = some M_216 := rfl
  refine Pl.sg1 (pc' := 3) (ls' := [(0, .int x0)]) (st' := [.int (3 : Int32), .int (0 : Int32), .int x0]) (σ' := σ) hM 2 rfl ?_
  refine Pl.weak (Pl.cZ hM rfl rfl (by decide) (Mj := M_195) rfl rfl (fun w2 σ1 hw hz => ?_))
  replace h := h w2 σ1 hw hz
  refine Pl.weak (Pl.retZ hM rfl rfl h)
set_option maxRecDepth 100000 in
theorem p_217_0 {n d : Nat} {Q : Option Value → Sg → Prop} (σ : Sg) (x1 : Int32) (h : (∀ w2 σ1, RCx PRG n 210 [.ref 97] σ (some (.int w2)) σ1 → (∀ w4 σ3, RCx PRG n 195 [.int x1, .int (0 : Int32), .int (w2 - (1 : Int32))] σ1 (some (.int w4)) σ3 → (w4 = 0 ∨ w4 = 1) → ((w4 = 0 ∨ w4 = 1) → Q (some (.int w4)) σ3)))) : Pl PRG (n + 1) d 217 0 [(0, .ref 97), (1, .int x1)] [] σ Q := by
  have hM : PRG[217]? = some M_217 := rfl
  refine Pl.sg1 (pc' := 3) (ls' := [(0, .ref 97), (1, .int x1)]) (st' := [.ref 97, .int (0 : Int32), .int x1]) (σ' := σ) hM 2 rfl ?_
  refine Pl.weak (Pl.cI hM rfl rfl (by decide) (Mj := M_210) rfl rfl (fun w2 σ1 hw => ?_))
  replace h := h w2 σ1 hw
  refine Pl.seg (pc' := 8) (ls' := [(0, .ref 97), (1, .int x1)]) (st' := [.int (w2 - (1 : Int32)), .int (0 : Int32), .int x1]) (σ' := σ1) hM 2 rfl ?_
  refine Pl.weak (Pl.cZ hM rfl rfl (by decide) (Mj := M_195) rfl rfl (fun w4 σ3 hw hz => ?_))
  replace h := h w4 σ3 hw hz
  refine Pl.weak (Pl.retZ hM rfl rfl h)
set_option maxRecDepth 100000 in
theorem p_218_0 {n d : Nat} {Q : Option Value → Sg → Prop} (σ : Sg) (x1 : Int32) (h : (inR (σ.1 97 18) 2 = true → (∀ w2 σ1, RCx PRG n 195 [.int x1, .int (0 : Int32), .int (((1 : Int32) <<< ((σ.1 109 (σ.1 97 18).toNatClampNeg) &&& 31)) - (1 : Int32))] σ (some (.int w2)) σ1 → (w2 = 0 ∨ w2 = 1) → ((w2 = 0 ∨ w2 = 1) → Q (some (.int w2)) σ1)))) : Pl PRG (n + 1) d 218 0 [(0, .ref 97), (1, .int x1)] [] σ Q := by
  have hM : PRG[218]? = some M_218 := rfl
  refine Pl.sg1 (pc' := 11) (ls' := [(0, .ref 97), (1, .int x1)]) (st' := [.int (σ.1 97 18), .ref 109, .int (1 : Int32), .int (0 : Int32), .int x1]) (σ' := σ) hM 6 rfl ?_
  refine Pl.weak (Pl.iald hM rfl rfl (fun hi => ?_))
  replace h := h hi
  refine Pl.seg (pc' := 15) (ls' := [(0, .ref 97), (1, .int x1)]) (st' := [.int (((1 : Int32) <<< ((σ.1 109 (σ.1 97 18).toNatClampNeg) &&& 31)) - (1 : Int32)), .int (0 : Int32), .int x1]) (σ' := σ) hM 3 rfl ?_
  refine Pl.weak (Pl.cZ hM rfl rfl (by decide) (Mj := M_195) rfl rfl (fun w2 σ1 hw hz => ?_))
  replace h := h w2 σ1 hw hz
  refine Pl.weak (Pl.retZ hM rfl rfl h)
set_option maxRecDepth 100000 in
theorem p_313_0 {n d : Nat} {Q : Option Value → Sg → Prop} (σ : Sg) (x1 : Int32) (h : (inR (σ.1 97 18) 2 = true → (∀ w2 σ1, RCx PRG n 195 [.int x1, .int (0 : Int32), .int ((σ.1 109 (σ.1 97 18).toNatClampNeg) - (1 : Int32))] σ (some (.int w2)) σ1 → (w2 = 0 ∨ w2 = 1) → ((w2 = 0 ∨ w2 = 1) → Q (some (.int w2)) σ1)))) : Pl PRG (n + 1) d 313 0 [(0, .ref 97), (1, .int x1)] [] σ Q := by
  have hM : PRG[313]? = some M_313 := rfl
  refine Pl.sg1 (pc' := 10) (ls' := [(0, .ref 97), (1, .int x1)]) (st' := [.int (σ.1 97 18), .ref 109, .int (0 : Int32), .int x1]) (σ' := σ) hM 5 rfl ?_
  refine Pl.weak (Pl.iald hM rfl rfl (fun hi => ?_))
  replace h := h hi
  refine Pl.seg (pc' := 13) (ls' := [(0, .ref 97), (1, .int x1)]) (st' := [.int ((σ.1 109 (σ.1 97 18).toNatClampNeg) - (1 : Int32)), .int (0 : Int32), .int x1]) (σ' := σ) hM 2 rfl ?_
  refine Pl.weak (Pl.cZ hM rfl rfl (by decide) (Mj := M_195) rfl rfl (fun w2 σ1 hw hz => ?_))
  replace h := h w2 σ1 hw hz
  refine Pl.weak (Pl.retZ hM rfl rfl h)
set_option maxRecDepth 100000 in
theorem p_219_0 {n d : Nat} {Q : Option Value → Sg → Prop} (σ : Sg) (h : Q none (s1 (s1 (s1 σ 97 45 (1 : Int32)) 97 47 (0 : Int32)) 97 48 (0 : Int32))) : Pl PRG (n + 1) d 219 0 [(0, .ref 97)] [] σ Q := by
  have hM : PRG[219]? = some M_219 := rfl
  refine Pl.sg1 (pc' := 15) (ls' := [(0, .ref 97)]) (st' := []) (σ' := (s1 (s1 (s1 σ 97 45 (1 : Int32)) 97 47 (0 : Int32)) 97 48 (0 : Int32))) hM 8 rfl ?_
  refine Pl.weak (Pl.ret hM rfl rfl h)
set_option maxRecDepth 100000 in
theorem p_220_0 {n d : Nat} {Q : Option Value → Sg → Prop} (σ : Sg) (x0 x1 : Int32) (h : Q (some (.int ((((x0 ^^^ x1) * (1103515245 : Int32)) + (12345 : Int32)) ^^^ (ush (((x0 ^^^ x1) * (1103515245 : Int32)) + (12345 : Int32)) (15 : Int32))))) σ) : Pl PRG (n + 1) d 220 0 [(0, .int x0), (1, .int x1)] [] σ Q := by
  have hM : PRG[220]? = some M_220 := rfl
  refine Pl.sg1 (pc' := 18) (ls' := [(2, .int (((x0 ^^^ x1) * (1103515245 : Int32)) + (12345 : Int32))), (0, .int x0), (1, .int x1)]) (st' := [.int ((((x0 ^^^ x1) * (1103515245 : Int32)) + (12345 : Int32)) ^^^ (ush (((x0 ^^^ x1) * (1103515245 : Int32)) + (12345 : Int32)) (15 : Int32)))]) (σ' := σ) hM 12 rfl ?_
  refine Pl.weak (Pl.ret hM rfl rfl h)
set_option maxRecDepth 100000 in
theorem p_221_0 {n d : Nat} {Q : Option Value → Sg → Prop} (σ : Sg) (x0 x1 x2 : Int32) (h : (∀ w2 σ1, RCx PRG n 220 [.int x0, .int (20 : Int32)] σ (some (.int w2)) σ1 → (∀ w4 σ3, RCx PRG n 220 [.int w2, .int x1] σ1 (some (.int w4)) σ3 → (¬ x2 = 0 → Q (some (.int ((ush w4 (1 : Int32)) - (ush w4 (1 : Int32)) / x2 * x2))) σ3)))) : Pl PRG (n + 1) d 221 0 [(0, .int x0), (1, .int x1), (2, .int x2)] [] σ Q := by
  have hM : PRG[221]? = some M_221 := rfl
  refine Pl.sg1 (pc' := 3) (ls' := [(0, .int x0), (1, .int x1), (2, .int x2)]) (st' := [.int (20 : Int32), .int x0]) (σ' := σ) hM 1 rfl ?_
  refine Pl.weak (Pl.cI hM rfl rfl (by decide) (Mj := M_220) rfl rfl (fun w2 σ1 hw => ?_))
  replace h := h w2 σ1 hw
  refine Pl.seg (pc' := 7) (ls' := [(0, .int x0), (1, .int x1), (2, .int x2)]) (st' := [.int x1, .int w2]) (σ' := σ1) hM 1 rfl ?_
  refine Pl.weak (Pl.cI hM rfl rfl (by decide) (Mj := M_220) rfl rfl (fun w4 σ3 hw => ?_))
  replace h := h w4 σ3 hw
  refine Pl.seg (pc' := 13) (ls' := [(0, .int x0), (1, .int x1), (2, .int x2)]) (st' := [.int x2, .int (ush w4 (1 : Int32))]) (σ' := σ3) hM 3 rfl ?_
  refine Pl.weak (Pl.rm hM rfl (fun hi => ?_))
  replace h := h hi
  refine Pl.weak (Pl.ret hM rfl rfl h)
def LV_222 : List (Nat × List Nat) := [(0, [0, 1]), (1, [0, 1]), (2, [0, 1, 2]), (3, [0, 1, 2]), (4, [0, 1, 2]), (7, [0, 1, 2]), (10, [0, 1, 2]), (11, [0, 1, 2]), (14, [0, 1, 2]), (15, [0, 1, 2]), (16, [0, 1, 2]), (17, [0, 1, 2]), (20, [0, 1, 2]), (23, [0, 1]), (24, [0, 1]), (27, [0, 1]), (28, [0, 1]), (29, [0, 1]), (30, [0, 1, 2]), (31, [0, 1, 2]), (34, [0, 1, 2]), (35, [0, 1, 2]), (36, [0, 1, 2]), (37, [0, 1, 2]), (38, [0, 1, 2]), (39, [0, 1, 2]), (42, [0, 1, 2]), (43, [0, 1, 2, 3]), (44, [0, 1, 2, 3]), (47, [0, 1, 2, 3]), (48, [0, 1, 2, 3]), (49, [0, 1, 2, 3]), (51, [0, 1, 2, 3, 4]), (52, [0, 1, 2, 3, 4]), (55, [0, 1, 2, 3, 4]), (56, [0, 1, 2, 3, 4]), (57, [0, 1, 2, 3, 4]), (60, [0, 1, 2, 3, 4]), (61, [0, 1, 2, 3, 4]), (62, [0, 1, 2, 3, 4]), (63, [0, 1, 2, 3, 4]), (64, [0, 1, 2, 3, 4]), (67, [0, 1, 2, 3, 4]), (68, [0, 1, 2, 4]), (70, [0, 1, 2]), (71, [0, 1, 2]), (74, [0, 1, 2]), (77, [0]), (78, [0]), (79, [0, 2]), (80, [0, 2]), (81, [0, 2]), (84, [0, 2]), (85, [0, 2]), (88, [0, 2]), (89, [0, 2]), (90, [0, 2]), (91, [0, 2]), (94, [0, 2]), (97, [0]), (98, [0]), (99, [0, 2]), (100, [0, 2]), (101, [0, 2]), (104, [0, 2]), (107, [0, 2]), (108, [0, 2]), (111, [0, 2]), (112, [0, 2]), (113, [0, 2]), (116, [0, 2]), (117, [0, 2]), (118, [0, 2]), (119, [0, 2]), (120, [0, 2]), (121, [0, 2]), (124, [0, 2]), (125, [0, 2]), (126, [0, 2]), (127, [0, 2]), (128, [0, 2]), (129, [0, 2]), (132, [0, 2]), (135, [0]), (136, []), (139, []), (140, [])]
set_option maxRecDepth 100000 in
theorem lv_222 : chkLv M_222 LV_222 = true := by decide +kernel
set_option maxRecDepth 100000 in
theorem lva_222_2 : lvA LV_222 2 = [0, 1, 2] := by decide +kernel
set_option maxRecDepth 100000 in
theorem lva_222_30 : lvA LV_222 30 = [0, 1, 2] := by decide +kernel
set_option maxRecDepth 100000 in
theorem lva_222_79 : lvA LV_222 79 = [0, 2] := by decide +kernel
set_option maxRecDepth 100000 in
theorem lva_222_99 : lvA LV_222 99 = [0, 2] := by decide +kernel
set_option maxRecDepth 100000 in
theorem p_222_0 {n d : Nat} {Q : Option Value → Sg → Prop} (σ : Sg) (x1 : Int32) (h : Pl PRG n d 222 2 [(0, .ref 97), (1, .int x1), (2, .int (0 : Int32))] [] σ Q) : Pl PRG (n + 1) d 222 0 [(0, .ref 97), (1, .int x1)] [] σ Q := by
  have hM : PRG[222]? = some M_222 := rfl
  refine Pl.sg1 (pc' := 2) (ls' := [(2, .int (0 : Int32)), (0, .ref 97), (1, .int x1)]) (st' := []) (σ' := σ) hM 1 rfl ?_
  exact Pl.live (l' := [(0, .ref 97), (1, .int x1), (2, .int (0 : Int32))]) hM lv_222 ⟨show ndL _ from (by decide : List.Nodup ([2, 0, 1] : List Nat)), show ndL _ from (by decide : List.Nodup ([0, 1, 2] : List Nat)), by rw [lva_222_2]; exact List.forall_mem_cons.mpr ⟨rfl, List.forall_mem_cons.mpr ⟨rfl, List.forall_mem_cons.mpr ⟨rfl, fun _ h => absurd h List.not_mem_nil⟩⟩⟩⟩ h
set_option maxRecDepth 100000 in
theorem p_222_2 {n d : Nat} {Q : Option Value → Sg → Prop} (σ : Sg) (x1 x2 : Int32) (h : (∀ w2 σ1, RCx PRG n 210 [.ref 97] σ (some (.int w2)) σ1 → ((w2 ≤ x2 → (∀ w4 σ3, RCx PRG n 210 [.ref 97] σ1 (some (.int w4)) σ3 → Pl PRG n d 222 30 [(0, .ref 97), (1, .int x1), (2, .int (w4 - (1 : Int32)))] [] σ3 Q)) ∧ (¬ w2 ≤ x2 → (inR x2 16 = true → Pl PRG n d 222 2 [(0, .ref 97), (1, .int x1), (2, .int (x2 + (1 : Int32)))] [] (s1 σ1 128 x2.toNatClampNeg x2) Q))))) : Pl PRG (n + 1) d 222 2 [(0, .ref 97), (1, .int x1), (2, .int x2)] [] σ Q := by
  have hM : PRG[222]? = some M_222 := rfl
  refine Pl.sg1 (pc' := 4) (ls' := [(0, .ref 97), (1, .int x1), (2, .int x2)]) (st' := [.ref 97, .int x2]) (σ' := σ) hM 1 rfl ?_
  refine Pl.weak (Pl.cI hM rfl rfl (by decide) (Mj := M_210) rfl rfl (fun w2 σ1 hw => ?_))
  replace h := h w2 σ1 hw
  refine Pl.br (c := w2 ≤ x2) (a := 23) (b := 10) (ls' := [(0, .ref 97), (1, .int x1), (2, .int x2)]) (st' := []) (σ' := σ1) hM 1 rfl (fun c => ?_) (fun c => ?_)
  · replace h := h.1 c
    refine Pl.seg (pc' := 24) (ls' := [(0, .ref 97), (1, .int x1), (2, .int x2)]) (st' := [.ref 97]) (σ' := σ1) hM 1 rfl ?_
    refine Pl.weak (Pl.cI hM rfl rfl (by decide) (Mj := M_210) rfl rfl (fun w4 σ3 hw => ?_))
    replace h := h w4 σ3 hw
    refine Pl.seg (pc' := 30) (ls' := [(2, .int (w4 - (1 : Int32))), (0, .ref 97), (1, .int x1)]) (st' := []) (σ' := σ3) hM 3 rfl ?_
    exact Pl.live (l' := [(0, .ref 97), (1, .int x1), (2, .int (w4 - (1 : Int32)))]) hM lv_222 ⟨show ndL _ from (by decide : List.Nodup ([2, 0, 1] : List Nat)), show ndL _ from (by decide : List.Nodup ([0, 1, 2] : List Nat)), by rw [lva_222_30]; exact List.forall_mem_cons.mpr ⟨rfl, List.forall_mem_cons.mpr ⟨rfl, List.forall_mem_cons.mpr ⟨rfl, fun _ h => absurd h List.not_mem_nil⟩⟩⟩⟩ h
  · replace h := h.2 c
    refine Pl.seg (pc' := 16) (ls' := [(0, .ref 97), (1, .int x1), (2, .int x2)]) (st' := [.int x2, .int x2, .ref 128]) (σ' := σ1) hM 4 rfl ?_
    refine Pl.weak (Pl.iast hM rfl rfl (fun hi => ?_))
    replace h := h hi
    refine Pl.seg (pc' := 2) (ls' := [(2, .int (x2 + (1 : Int32))), (0, .ref 97), (1, .int x1)]) (st' := []) (σ' := (s1 σ1 128 x2.toNatClampNeg x2)) hM 2 rfl ?_
    exact Pl.live (l' := [(0, .ref 97), (1, .int x1), (2, .int (x2 + (1 : Int32)))]) hM lv_222 ⟨show ndL _ from (by decide : List.Nodup ([2, 0, 1] : List Nat)), show ndL _ from (by decide : List.Nodup ([0, 1, 2] : List Nat)), by rw [lva_222_2]; exact List.forall_mem_cons.mpr ⟨rfl, List.forall_mem_cons.mpr ⟨rfl, List.forall_mem_cons.mpr ⟨rfl, fun _ h => absurd h List.not_mem_nil⟩⟩⟩⟩ h
set_option maxRecDepth 100000 in
theorem p_222_30 {n d : Nat} {Q : Option Value → Sg → Prop} (σ : Sg) (x1 x2 : Int32) (h : ((x2 ≤ 0 → Pl PRG n d 222 79 [(0, .ref 97), (2, .int (0 : Int32))] [] σ Q) ∧ (¬ x2 ≤ 0 → (∀ w2 σ1, RCx PRG n 221 [.int x1, .int x2, .int (x2 + (1 : Int32))] σ (some (.int w2)) σ1 → (inR x2 16 = true → (inR w2 16 = true → (inR x2 16 = true → (inR w2 16 = true → Pl PRG n d 222 30 [(0, .ref 97), (1, .int x1), (2, .int (x2 + (-1 : Int32)))] [] (s1 (s1 σ1 128 x2.toNatClampNeg (σ1.1 128 w2.toNatClampNeg)) 128 w2.toNatClampNeg (σ1.1 128 x2.toNatClampNeg)) Q)))))))) : Pl PRG (n + 1) d 222 30 [(0, .ref 97), (1, .int x1), (2, .int x2)] [] σ Q := by
  have hM : PRG[222]? = some M_222 := rfl
  refine Pl.br1 (c := x2 ≤ 0) (a := 77) (b := 34) (ls' := [(0, .ref 97), (1, .int x1), (2, .int x2)]) (st' := []) (σ' := σ) hM 1 rfl (fun c => ?_) (fun c => ?_)
  · replace h := h.1 c
    refine Pl.seg (pc' := 79) (ls' := [(2, .int (0 : Int32)), (0, .ref 97), (1, .int x1)]) (st' := []) (σ' := σ) hM 2 rfl ?_
    exact Pl.live (l' := [(0, .ref 97), (2, .int (0 : Int32))]) hM lv_222 ⟨show ndL _ from (by decide : List.Nodup ([2, 0, 1] : List Nat)), show ndL _ from (by decide : List.Nodup ([0, 2] : List Nat)), by rw [lva_222_79]; exact List.forall_mem_cons.mpr ⟨rfl, List.forall_mem_cons.mpr ⟨rfl, fun _ h => absurd h List.not_mem_nil⟩⟩⟩ h
  · replace h := h.2 c
    refine Pl.seg (pc' := 39) (ls' := [(0, .ref 97), (1, .int x1), (2, .int x2)]) (st' := [.int (x2 + (1 : Int32)), .int x2, .int x1]) (σ' := σ) hM 5 rfl ?_
    refine Pl.weak (Pl.cI hM rfl rfl (by decide) (Mj := M_221) rfl rfl (fun w2 σ1 hw => ?_))
    replace h := h w2 σ1 hw
    refine Pl.seg (pc' := 48) (ls' := [(3, .int w2), (0, .ref 97), (1, .int x1), (2, .int x2)]) (st' := [.int x2, .ref 128]) (σ' := σ1) hM 4 rfl ?_
    refine Pl.weak (Pl.iald hM rfl rfl (fun hi => ?_))
    replace h := h hi
    refine Pl.seg (pc' := 61) (ls' := [(4, .int (σ1.1 128 x2.toNatClampNeg)), (3, .int w2), (0, .ref 97), (1, .int x1), (2, .int x2)]) (st' := [.int w2, .ref 128, .int x2, .ref 128]) (σ' := σ1) hM 7 rfl ?_
    refine Pl.weak (Pl.iald hM rfl rfl (fun hi => ?_))
    replace h := h hi
    refine Pl.weak (Pl.iast hM rfl rfl (fun hi => ?_))
    replace h := h hi
    refine Pl.seg (pc' := 70) (ls' := [(4, .int (σ1.1 128 x2.toNatClampNeg)), (3, .int w2), (0, .ref 97), (1, .int x1), (2, .int x2)]) (st' := [.int (σ1.1 128 x2.toNatClampNeg), .int w2, .ref 128]) (σ' := (s1 σ1 128 x2.toNatClampNeg (σ1.1 128 w2.toNatClampNeg))) hM 4 rfl ?_
    refine Pl.weak (Pl.iast hM rfl rfl (fun hi => ?_))
    replace h := h hi
    refine Pl.seg (pc' := 30) (ls' := [(2, .int (x2 + (-1 : Int32))), (4, .int (σ1.1 128 x2.toNatClampNeg)), (3, .int w2), (0, .ref 97), (1, .int x1)]) (st' := []) (σ' := (s1 (s1 σ1 128 x2.toNatClampNeg (σ1.1 128 w2.toNatClampNeg)) 128 w2.toNatClampNeg (σ1.1 128 x2.toNatClampNeg))) hM 2 rfl ?_
    exact Pl.live (l' := [(0, .ref 97), (1, .int x1), (2, .int (x2 + (-1 : Int32)))]) hM lv_222 ⟨show ndL _ from (by decide : List.Nodup ([2, 4, 3, 0, 1] : List Nat)), show ndL _ from (by decide : List.Nodup ([0, 1, 2] : List Nat)), by rw [lva_222_30]; exact List.forall_mem_cons.mpr ⟨rfl, List.forall_mem_cons.mpr ⟨rfl, List.forall_mem_cons.mpr ⟨rfl, fun _ h => absurd h List.not_mem_nil⟩⟩⟩⟩ h
set_option maxRecDepth 100000 in
theorem p_222_79 {n d : Nat} {Q : Option Value → Sg → Prop} (σ : Sg) (x2 : Int32) (h : (((4 : Int32) ≤ x2 → Pl PRG n d 222 99 [(0, .ref 97), (2, .int (0 : Int32))] [] σ Q) ∧ (¬ (4 : Int32) ≤ x2 → (inR x2 4 = true → Pl PRG n d 222 79 [(0, .ref 97), (2, .int (x2 + (1 : Int32)))] [] (s1 σ 125 x2.toNatClampNeg (0 : Int32)) Q)))) : Pl PRG (n + 1) d 222 79 [(0, .ref 97), (2, .int x2)] [] σ Q := by
  have hM : PRG[222]? = some M_222 := rfl
  refine Pl.br1 (c := (4 : Int32) ≤ x2) (a := 97) (b := 84) (ls' := [(0, .ref 97), (2, .int x2)]) (st' := []) (σ' := σ) hM 2 rfl (fun c => ?_) (fun c => ?_)
  · replace h := h.1 c
    refine Pl.seg (pc' := 99) (ls' := [(2, .int (0 : Int32)), (0, .ref 97)]) (st' := []) (σ' := σ) hM 2 rfl ?_
    exact Pl.live (l' := [(0, .ref 97), (2, .int (0 : Int32))]) hM lv_222 ⟨show ndL _ from (by decide : List.Nodup ([2, 0] : List Nat)), show ndL _ from (by decide : List.Nodup ([0, 2] : List Nat)), by rw [lva_222_99]; exact List.forall_mem_cons.mpr ⟨rfl, List.forall_mem_cons.mpr ⟨rfl, fun _ h => absurd h List.not_mem_nil⟩⟩⟩ h
  · replace h := h.2 c
    refine Pl.seg (pc' := 90) (ls' := [(0, .ref 97), (2, .int x2)]) (st' := [.int (0 : Int32), .int x2, .ref 125]) (σ' := σ) hM 4 rfl ?_
    refine Pl.weak (Pl.iast hM rfl rfl (fun hi => ?_))
    replace h := h hi
    refine Pl.seg (pc' := 79) (ls' := [(2, .int (x2 + (1 : Int32))), (0, .ref 97)]) (st' := []) (σ' := (s1 σ 125 x2.toNatClampNeg (0 : Int32))) hM 2 rfl ?_
    exact Pl.live (l' := [(0, .ref 97), (2, .int (x2 + (1 : Int32)))]) hM lv_222 ⟨show ndL _ from (by decide : List.Nodup ([2, 0] : List Nat)), show ndL _ from (by decide : List.Nodup ([0, 2] : List Nat)), by rw [lva_222_79]; exact List.forall_mem_cons.mpr ⟨rfl, List.forall_mem_cons.mpr ⟨rfl, fun _ h => absurd h List.not_mem_nil⟩⟩⟩ h
set_option maxRecDepth 100000 in
theorem p_222_99 {n d : Nat} {Q : Option Value → Sg → Prop} (σ : Sg) (x2 : Int32) (h : (∀ w2 σ1, RCx PRG n 210 [.ref 97] σ (some (.int w2)) σ1 → ((w2 ≤ x2 → (∀ σ3, RCx PRG n 219 [.ref 97] σ1 none σ3 → Q (some (.int (1 : Int32))) σ3)) ∧ (¬ w2 ≤ x2 → (∀ w5 σ4, RCx PRG n 211 [.ref 97] σ1 (some (.int w5)) σ4 → (¬ w5 = 0 → (inR (x2 / w5) 4 = true → (inR x2 16 = true → (inR (x2 / w5) 4 = true → Pl PRG n d 222 99 [(0, .ref 97), (2, .int (x2 + (1 : Int32)))] [] (s1 σ4 125 (x2 / w5).toNatClampNeg ((σ4.1 125 (x2 / w5).toNatClampNeg) ||| ((1 : Int32) <<< ((σ4.1 128 x2.toNatClampNeg) &&& 31)))) Q))))))))) : Pl PRG (n + 1) d 222 99 [(0, .ref 97), (2, .int x2)] [] σ Q := by
  have hM : PRG[222]? = some M_222 := rfl
  refine Pl.sg1 (pc' := 101) (ls' := [(0, .ref 97), (2, .int x2)]) (st' := [.ref 97, .int x2]) (σ' := σ) hM 1 rfl ?_
  refine Pl.weak (Pl.cI hM rfl rfl (by decide) (Mj := M_210) rfl rfl (fun w2 σ1 hw => ?_))
  replace h := h w2 σ1 hw
  refine Pl.br (c := w2 ≤ x2) (a := 135) (b := 107) (ls' := [(0, .ref 97), (2, .int x2)]) (st' := []) (σ' := σ1) hM 1 rfl (fun c => ?_) (fun c => ?_)
  · replace h := h.1 c
    refine Pl.seg (pc' := 136) (ls' := [(0, .ref 97), (2, .int x2)]) (st' := [.ref 97]) (σ' := σ1) hM 1 rfl ?_
    refine Pl.weak (Pl.cV hM rfl rfl (by decide) (Mj := M_219) rfl rfl (fun σ3 hw => ?_))
    replace h := h σ3 hw
    refine Pl.seg (pc' := 140) (ls' := [(0, .ref 97), (2, .int x2)]) (st' := [.int (1 : Int32)]) (σ' := σ3) hM 1 rfl ?_
    refine Pl.weak (Pl.ret hM rfl rfl h)
  · replace h := h.2 c
    refine Pl.seg (pc' := 113) (ls' := [(0, .ref 97), (2, .int x2)]) (st' := [.ref 97, .int x2, .ref 125]) (σ' := σ1) hM 4 rfl ?_
    refine Pl.weak (Pl.cI hM rfl rfl (by decide) (Mj := M_211) rfl rfl (fun w5 σ4 hw => ?_))
    replace h := h w5 σ4 hw
    refine Pl.weak (Pl.dv hM rfl (fun hi => ?_))
    replace h := h hi
    refine Pl.seg (pc' := 118) (ls' := [(0, .ref 97), (2, .int x2)]) (st' := [.int (x2 / w5), .ref 125, .int (x2 / w5), .ref 125]) (σ' := σ4) hM 1 rfl ?_
    refine Pl.weak (Pl.iald hM rfl rfl (fun hi => ?_))
    replace h := h hi
    refine Pl.seg (pc' := 125) (ls' := [(0, .ref 97), (2, .int x2)]) (st' := [.int x2, .ref 128, .int (1 : Int32), .int (σ4.1 125 (x2 / w5).toNatClampNeg), .int (x2 / w5), .ref 125]) (σ' := σ4) hM 4 rfl ?_
    refine Pl.weak (Pl.iald hM rfl rfl (fun hi => ?_))
    replace h := h hi
    refine Pl.seg (pc' := 128) (ls' := [(0, .ref 97), (2, .int x2)]) (st' := [.int ((σ4.1 125 (x2 / w5).toNatClampNeg) ||| ((1 : Int32) <<< ((σ4.1 128 x2.toNatClampNeg) &&& 31))), .int (x2 / w5), .ref 125]) (σ' := σ4) hM 2 rfl ?_
    refine Pl.weak (Pl.iast hM rfl rfl (fun hi => ?_))
    replace h := h hi
    refine Pl.seg (pc' := 99) (ls' := [(2, .int (x2 + (1 : Int32))), (0, .ref 97)]) (st' := []) (σ' := (s1 σ4 125 (x2 / w5).toNatClampNeg ((σ4.1 125 (x2 / w5).toNatClampNeg) ||| ((1 : Int32) <<< ((σ4.1 128 x2.toNatClampNeg) &&& 31))))) hM 2 rfl ?_
    exact Pl.live (l' := [(0, .ref 97), (2, .int (x2 + (1 : Int32)))]) hM lv_222 ⟨show ndL _ from (by decide : List.Nodup ([2, 0] : List Nat)), show ndL _ from (by decide : List.Nodup ([0, 2] : List Nat)), by rw [lva_222_99]; exact List.forall_mem_cons.mpr ⟨rfl, List.forall_mem_cons.mpr ⟨rfl, fun _ h => absurd h List.not_mem_nil⟩⟩⟩ h
def LV_223 : List (Nat × List Nat) := [(0, [0, 1, 2, 3]), (1, [0, 1, 2, 3]), (2, [0, 1, 2, 3]), (5, [0, 1, 2, 3]), (6, [0, 1, 2, 3]), (7, [0, 1, 2, 3]), (8, [0, 1, 2, 3]), (10, [0, 1, 2, 3, 4]), (11, [0, 1, 2, 3, 4]), (12, [0, 1, 2, 3, 4]), (14, [0, 1, 2, 3, 4]), (17, [0, 1, 2, 3, 4]), (20, [0, 1, 2, 3, 4]), (21, [0, 1, 2, 3, 4]), (22, [0, 1, 2, 3, 4]), (24, [0, 1, 2, 3, 4]), (27, [0, 1, 2, 3, 4]), (30, [0, 1, 2, 3, 4]), (31, [0, 1, 2, 3, 4]), (32, [0, 1, 2, 3, 4]), (34, [0, 1, 2, 3, 4]), (37, [0, 1, 2, 3, 4]), (40, [0, 1, 2, 3, 4]), (41, [0, 1, 2, 3, 4]), (42, [0, 1, 2, 3, 4]), (43, [0, 1, 2, 3, 4]), (46, [0, 1, 2, 3, 4]), (47, [0, 1, 2, 3, 4]), (48, [0, 1, 2, 3, 4]), (49, [0, 1, 2, 3, 4]), (52, [0, 1, 2, 3, 4]), (53, [0, 1, 2, 3, 4]), (54, [0, 1, 2, 3, 4]), (55, [0, 1, 2, 3, 4]), (58, []), (59, []), (60, [0, 1, 2, 3, 4]), (61, [0, 1, 2, 3, 4]), (64, [0, 1, 2, 3, 4]), (65, [0, 1, 2, 3, 4]), (68, [0, 1, 2, 3, 4]), (71, [0, 1, 2, 3, 4]), (72, [0, 1, 2, 3, 4]), (75, [0, 1, 2, 3, 4]), (76, [0, 1, 2, 3, 4]), (79, [0, 1, 2, 3, 4]), (82, [0, 1, 2, 3, 4]), (83, [0, 1, 2, 3, 4]), (86, [0, 1, 2, 3, 4]), (87, [0, 1, 2, 3, 4]), (90, [0, 1, 2, 3, 4]), (93, []), (94, []), (95, [0, 1, 2, 3, 4]), (96, [0, 1, 2, 3, 4]), (99, [0, 1, 2, 3, 4]), (100, [0, 1, 2, 3, 4]), (101, [0, 1, 2, 3, 4]), (102, [0, 1, 2, 3, 4]), (103, [0, 1, 2, 3, 4]), (106, [0, 1, 2, 3, 4]), (107, [0, 1, 2, 3, 4]), (108, [0, 1, 2, 3, 4]), (109, [0, 1, 2, 3, 4]), (110, [0, 1, 2, 3, 4]), (113, [0, 1, 2, 3, 4]), (114, [0, 1, 2, 3, 4]), (115, [0, 1, 2, 3, 4]), (116, [0, 1, 2, 3, 4]), (117, [0, 1, 2, 3, 4]), (120, [0, 1, 2, 3, 4]), (121, [0, 1, 2, 3, 4]), (123, [0, 1, 2, 3]), (124, [0, 2, 3]), (125, [0, 2, 3]), (126, [0, 2, 3]), (127, [0, 2, 3]), (128, [0, 3]), (129, [0, 3]), (130, [0, 3]), (131, [0, 3]), (132, [0]), (133, [0]), (134, [0]), (135, [0]), (136, [0]), (137, []), (140, []), (141, [])]
set_option maxRecDepth 100000 in
theorem lv_223 : chkLv M_223 LV_223 = true := by decide +kernel
set_option maxRecDepth 100000 in
theorem lva_223_58 : lvA LV_223 58 = [] := by decide +kernel
set_option maxRecDepth 100000 in
theorem lva_223_93 : lvA LV_223 93 = [] := by decide +kernel
set_option maxRecDepth 100000 in
theorem p_223_0 {n d : Nat} {Q : Option Value → Sg → Prop} (σ : Sg) (x1 x2 x3 : Int32) (h : (∀ w2 σ1, RCx PRG n 210 [.ref 97] σ (some (.int w2)) σ1 → (∀ w4 σ3, RCx PRG n 195 [.int x1, .int (0 : Int32), .int (((1 : Int32) <<< (w2 &&& 31)) - (1 : Int32))] σ1 (some (.int w4)) σ3 → (w4 = 0 ∨ w4 = 1) → ((w4 = 0 → Pl PRG n d 223 58 [] [] σ3 Q) ∧ (¬ w4 = 0 → (∀ w6 σ5, RCx PRG n 195 [.int x2, .int (0 : Int32), .int (((1 : Int32) <<< (w2 &&& 31)) - (1 : Int32))] σ3 (some (.int w6)) σ5 → (w6 = 0 ∨ w6 = 1) → ((w6 = 0 → Pl PRG n d 223 58 [] [] σ5 Q) ∧ (¬ w6 = 0 → (∀ w8 σ7, RCx PRG n 195 [.int x3, .int (0 : Int32), .int (((1 : Int32) <<< (w2 &&& 31)) - (1 : Int32))] σ5 (some (.int w8)) σ7 → (w8 = 0 ∨ w8 = 1) → ((w8 = 0 → Pl PRG n d 223 58 [] [] σ7 Q) ∧ (¬ w8 = 0 → (((x1 &&& x2) = 0 → (((x1 &&& x3) = 0 → (((x2 &&& x3) = 0 → (∀ w10 σ9, RCx PRG n 209 [.int x1] σ7 (some (.int w10)) σ9 → (∀ w12 σ11, RCx PRG n 211 [.ref 97] σ9 (some (.int w12)) σ11 → ((w10 = w12 → (∀ w14 σ13, RCx PRG n 209 [.int x2] σ11 (some (.int w14)) σ13 → (∀ w16 σ15, RCx PRG n 211 [.ref 97] σ13 (some (.int w16)) σ15 → ((w14 = w16 → (∀ w18 σ17, RCx PRG n 209 [.int x3] σ15 (some (.int w18)) σ17 → (∀ w20 σ19, RCx PRG n 211 [.ref 97] σ17 (some (.int w20)) σ19 → ((w18 = w20 → (∀ σ21, RCx PRG n 219 [.ref 97] (s1 (s1 (s1 (s1 σ19 125 0 x1) 125 1 x2) 125 2 x3) 125 3 ((((((1 : Int32) <<< (w2 &&& 31)) - (1 : Int32)) &&& (x1 ^^^ (-1 : Int32))) &&& (x2 ^^^ (-1 : Int32))) &&& (x3 ^^^ (-1 : Int32)))) none σ21 → Q (some (.int (1 : Int32))) σ21)) ∧ (¬ w18 = w20 → Pl PRG n d 223 93 [] [] σ19 Q))))) ∧ (¬ w14 = w16 → Pl PRG n d 223 93 [] [] σ15 Q))))) ∧ (¬ w10 = w12 → Pl PRG n d 223 93 [] [] σ11 Q))))) ∧ (¬ (x2 &&& x3) = 0 → Pl PRG n d 223 58 [] [] σ7 Q))) ∧ (¬ (x1 &&& x3) = 0 → Pl PRG n d 223 58 [] [] σ7 Q))) ∧ (¬ (x1 &&& x2) = 0 → Pl PRG n d 223 58 [] [] σ7 Q))))))))))))) : Pl PRG (n + 1) d 223 0 [(0, .ref 97), (1, .int x1), (2, .int x2), (3, .int x3)] [] σ Q := by
  have hM : PRG[223]? = some M_223 := rfl
  refine Pl.sg1 (pc' := 2) (ls' := [(0, .ref 97), (1, .int x1), (2, .int x2), (3, .int x3)]) (st' := [.ref 97, .int (1 : Int32)]) (σ' := σ) hM 1 rfl ?_
  refine Pl.weak (Pl.cI hM rfl rfl (by decide) (Mj := M_210) rfl rfl (fun w2 σ1 hw => ?_))
  replace h := h w2 σ1 hw
  refine Pl.seg (pc' := 14) (ls' := [(4, .int (((1 : Int32) <<< (w2 &&& 31)) - (1 : Int32))), (0, .ref 97), (1, .int x1), (2, .int x2), (3, .int x3)]) (st' := [.int (((1 : Int32) <<< (w2 &&& 31)) - (1 : Int32)), .int (0 : Int32), .int x1]) (σ' := σ1) hM 7 rfl ?_
  refine Pl.weak (Pl.cZ hM rfl rfl (by decide) (Mj := M_195) rfl rfl (fun w4 σ3 hw hz => ?_))
  replace h := h w4 σ3 hw hz
  refine Pl.br (c := w4 = 0) (a := 58) (b := 20) (ls' := [(4, .int (((1 : Int32) <<< (w2 &&& 31)) - (1 : Int32))), (0, .ref 97), (1, .int x1), (2, .int x2), (3, .int x3)]) (st' := []) (σ' := σ3) hM 1 rfl (fun c => ?_) (fun c => ?_)
  · replace h := h.1 c
    exact Pl.live (l' := []) hM lv_223 ⟨show ndL _ from (by decide : List.Nodup ([4, 0, 1, 2, 3] : List Nat)), show ndL _ from (by decide : List.Nodup ([] : List Nat)), by rw [lva_223_58]; exact fun _ h => absurd h List.not_mem_nil⟩ h
  · replace h := h.2 c
    refine Pl.seg (pc' := 24) (ls' := [(4, .int (((1 : Int32) <<< (w2 &&& 31)) - (1 : Int32))), (0, .ref 97), (1, .int x1), (2, .int x2), (3, .int x3)]) (st' := [.int (((1 : Int32) <<< (w2 &&& 31)) - (1 : Int32)), .int (0 : Int32), .int x2]) (σ' := σ3) hM 3 rfl ?_
    refine Pl.weak (Pl.cZ hM rfl rfl (by decide) (Mj := M_195) rfl rfl (fun w6 σ5 hw hz => ?_))
    replace h := h w6 σ5 hw hz
    refine Pl.br (c := w6 = 0) (a := 58) (b := 30) (ls' := [(4, .int (((1 : Int32) <<< (w2 &&& 31)) - (1 : Int32))), (0, .ref 97), (1, .int x1), (2, .int x2), (3, .int x3)]) (st' := []) (σ' := σ5) hM 1 rfl (fun c => ?_) (fun c => ?_)
    · replace h := h.1 c
      exact Pl.live (l' := []) hM lv_223 ⟨show ndL _ from (by decide : List.Nodup ([4, 0, 1, 2, 3] : List Nat)), show ndL _ from (by decide : List.Nodup ([] : List Nat)), by rw [lva_223_58]; exact fun _ h => absurd h List.not_mem_nil⟩ h
    · replace h := h.2 c
      refine Pl.seg (pc' := 34) (ls' := [(4, .int (((1 : Int32) <<< (w2 &&& 31)) - (1 : Int32))), (0, .ref 97), (1, .int x1), (2, .int x2), (3, .int x3)]) (st' := [.int (((1 : Int32) <<< (w2 &&& 31)) - (1 : Int32)), .int (0 : Int32), .int x3]) (σ' := σ5) hM 3 rfl ?_
      refine Pl.weak (Pl.cZ hM rfl rfl (by decide) (Mj := M_195) rfl rfl (fun w8 σ7 hw hz => ?_))
      replace h := h w8 σ7 hw hz
      refine Pl.br (c := w8 = 0) (a := 58) (b := 40) (ls' := [(4, .int (((1 : Int32) <<< (w2 &&& 31)) - (1 : Int32))), (0, .ref 97), (1, .int x1), (2, .int x2), (3, .int x3)]) (st' := []) (σ' := σ7) hM 1 rfl (fun c => ?_) (fun c => ?_)
      · replace h := h.1 c
        exact Pl.live (l' := []) hM lv_223 ⟨show ndL _ from (by decide : List.Nodup ([4, 0, 1, 2, 3] : List Nat)), show ndL _ from (by decide : List.Nodup ([] : List Nat)), by rw [lva_223_58]; exact fun _ h => absurd h List.not_mem_nil⟩ h
      · replace h := h.2 c
        refine Pl.brN (c := (x1 &&& x2) = 0) (a := 58) (b := 46) (ls' := [(4, .int (((1 : Int32) <<< (w2 &&& 31)) - (1 : Int32))), (0, .ref 97), (1, .int x1), (2, .int x2), (3, .int x3)]) (st' := []) (σ' := σ7) hM 4 rfl (fun c => ?_) (fun c => ?_)
        · replace h := h.2 c
          exact Pl.live (l' := []) hM lv_223 ⟨show ndL _ from (by decide : List.Nodup ([4, 0, 1, 2, 3] : List Nat)), show ndL _ from (by decide : List.Nodup ([] : List Nat)), by rw [lva_223_58]; exact fun _ h => absurd h List.not_mem_nil⟩ h
        · replace h := h.1 c
          refine Pl.brN (c := (x1 &&& x3) = 0) (a := 58) (b := 52) (ls' := [(4, .int (((1 : Int32) <<< (w2 &&& 31)) - (1 : Int32))), (0, .ref 97), (1, .int x1), (2, .int x2), (3, .int x3)]) (st' := []) (σ' := σ7) hM 4 rfl (fun c => ?_) (fun c => ?_)
          · replace h := h.2 c
            exact Pl.live (l' := []) hM lv_223 ⟨show ndL _ from (by decide : List.Nodup ([4, 0, 1, 2, 3] : List Nat)), show ndL _ from (by decide : List.Nodup ([] : List Nat)), by rw [lva_223_58]; exact fun _ h => absurd h List.not_mem_nil⟩ h
          · replace h := h.1 c
            refine Pl.br (c := (x2 &&& x3) = 0) (a := 60) (b := 58) (ls' := [(4, .int (((1 : Int32) <<< (w2 &&& 31)) - (1 : Int32))), (0, .ref 97), (1, .int x1), (2, .int x2), (3, .int x3)]) (st' := []) (σ' := σ7) hM 4 rfl (fun c => ?_) (fun c => ?_)
            · replace h := h.1 c
              refine Pl.seg (pc' := 61) (ls' := [(4, .int (((1 : Int32) <<< (w2 &&& 31)) - (1 : Int32))), (0, .ref 97), (1, .int x1), (2, .int x2), (3, .int x3)]) (st' := [.int x1]) (σ' := σ7) hM 1 rfl ?_
              refine Pl.weak (Pl.cI hM rfl rfl (by decide) (Mj := M_209) rfl rfl (fun w10 σ9 hw => ?_))
              replace h := h w10 σ9 hw
              refine Pl.seg (pc' := 65) (ls' := [(4, .int (((1 : Int32) <<< (w2 &&& 31)) - (1 : Int32))), (0, .ref 97), (1, .int x1), (2, .int x2), (3, .int x3)]) (st' := [.ref 97, .int w10]) (σ' := σ9) hM 1 rfl ?_
              refine Pl.weak (Pl.cI hM rfl rfl (by decide) (Mj := M_211) rfl rfl (fun w12 σ11 hw => ?_))
              replace h := h w12 σ11 hw
              refine Pl.brN (c := w10 = w12) (a := 93) (b := 71) (ls' := [(4, .int (((1 : Int32) <<< (w2 &&& 31)) - (1 : Int32))), (0, .ref 97), (1, .int x1), (2, .int x2), (3, .int x3)]) (st' := []) (σ' := σ11) hM 1 rfl (fun c => ?_) (fun c => ?_)
              · replace h := h.2 c
                exact Pl.live (l' := []) hM lv_223 ⟨show ndL _ from (by decide : List.Nodup ([4, 0, 1, 2, 3] : List Nat)), show ndL _ from (by decide : List.Nodup ([] : List Nat)), by rw [lva_223_93]; exact fun _ h => absurd h List.not_mem_nil⟩ h
              · replace h := h.1 c
                refine Pl.seg (pc' := 72) (ls' := [(4, .int (((1 : Int32) <<< (w2 &&& 31)) - (1 : Int32))), (0, .ref 97), (1, .int x1), (2, .int x2), (3, .int x3)]) (st' := [.int x2]) (σ' := σ11) hM 1 rfl ?_
                refine Pl.weak (Pl.cI hM rfl rfl (by decide) (Mj := M_209) rfl rfl (fun w14 σ13 hw => ?_))
                replace h := h w14 σ13 hw
                refine Pl.seg (pc' := 76) (ls' := [(4, .int (((1 : Int32) <<< (w2 &&& 31)) - (1 : Int32))), (0, .ref 97), (1, .int x1), (2, .int x2), (3, .int x3)]) (st' := [.ref 97, .int w14]) (σ' := σ13) hM 1 rfl ?_
                refine Pl.weak (Pl.cI hM rfl rfl (by decide) (Mj := M_211) rfl rfl (fun w16 σ15 hw => ?_))
                replace h := h w16 σ15 hw
                refine Pl.brN (c := w14 = w16) (a := 93) (b := 82) (ls' := [(4, .int (((1 : Int32) <<< (w2 &&& 31)) - (1 : Int32))), (0, .ref 97), (1, .int x1), (2, .int x2), (3, .int x3)]) (st' := []) (σ' := σ15) hM 1 rfl (fun c => ?_) (fun c => ?_)
                · replace h := h.2 c
                  exact Pl.live (l' := []) hM lv_223 ⟨show ndL _ from (by decide : List.Nodup ([4, 0, 1, 2, 3] : List Nat)), show ndL _ from (by decide : List.Nodup ([] : List Nat)), by rw [lva_223_93]; exact fun _ h => absurd h List.not_mem_nil⟩ h
                · replace h := h.1 c
                  refine Pl.seg (pc' := 83) (ls' := [(4, .int (((1 : Int32) <<< (w2 &&& 31)) - (1 : Int32))), (0, .ref 97), (1, .int x1), (2, .int x2), (3, .int x3)]) (st' := [.int x3]) (σ' := σ15) hM 1 rfl ?_
                  refine Pl.weak (Pl.cI hM rfl rfl (by decide) (Mj := M_209) rfl rfl (fun w18 σ17 hw => ?_))
                  replace h := h w18 σ17 hw
                  refine Pl.seg (pc' := 87) (ls' := [(4, .int (((1 : Int32) <<< (w2 &&& 31)) - (1 : Int32))), (0, .ref 97), (1, .int x1), (2, .int x2), (3, .int x3)]) (st' := [.ref 97, .int w18]) (σ' := σ17) hM 1 rfl ?_
                  refine Pl.weak (Pl.cI hM rfl rfl (by decide) (Mj := M_211) rfl rfl (fun w20 σ19 hw => ?_))
                  replace h := h w20 σ19 hw
                  refine Pl.br (c := w18 = w20) (a := 95) (b := 93) (ls' := [(4, .int (((1 : Int32) <<< (w2 &&& 31)) - (1 : Int32))), (0, .ref 97), (1, .int x1), (2, .int x2), (3, .int x3)]) (st' := []) (σ' := σ19) hM 1 rfl (fun c => ?_) (fun c => ?_)
                  · replace h := h.1 c
                    refine Pl.seg (pc' := 137) (ls' := [(4, .int (((1 : Int32) <<< (w2 &&& 31)) - (1 : Int32))), (0, .ref 97), (1, .int x1), (2, .int x2), (3, .int x3)]) (st' := [.ref 97]) (σ' := (s1 (s1 (s1 (s1 σ19 125 0 x1) 125 1 x2) 125 2 x3) 125 3 ((((((1 : Int32) <<< (w2 &&& 31)) - (1 : Int32)) &&& (x1 ^^^ (-1 : Int32))) &&& (x2 ^^^ (-1 : Int32))) &&& (x3 ^^^ (-1 : Int32))))) hM 33 rfl ?_
                    refine Pl.weak (Pl.cV hM rfl rfl (by decide) (Mj := M_219) rfl rfl (fun σ21 hw => ?_))
                    replace h := h σ21 hw
                    refine Pl.seg (pc' := 141) (ls' := [(4, .int (((1 : Int32) <<< (w2 &&& 31)) - (1 : Int32))), (0, .ref 97), (1, .int x1), (2, .int x2), (3, .int x3)]) (st' := [.int (1 : Int32)]) (σ' := σ21) hM 1 rfl ?_
                    refine Pl.weak (Pl.ret hM rfl rfl h)
                  · replace h := h.2 c
                    exact Pl.live (l' := []) hM lv_223 ⟨show ndL _ from (by decide : List.Nodup ([4, 0, 1, 2, 3] : List Nat)), show ndL _ from (by decide : List.Nodup ([] : List Nat)), by rw [lva_223_93]; exact fun _ h => absurd h List.not_mem_nil⟩ h
            · replace h := h.2 c
              exact Pl.live (l' := []) hM lv_223 ⟨show ndL _ from (by decide : List.Nodup ([4, 0, 1, 2, 3] : List Nat)), show ndL _ from (by decide : List.Nodup ([] : List Nat)), by rw [lva_223_58]; exact fun _ h => absurd h List.not_mem_nil⟩ h
set_option maxRecDepth 100000 in
theorem p_223_58 {n d : Nat} {Q : Option Value → Sg → Prop} (σ : Sg) (h : Q (some (.int (0 : Int32))) σ) : Pl PRG (n + 1) d 223 58 [] [] σ Q := by
  have hM : PRG[223]? = some M_223 := rfl
  refine Pl.sg1 (pc' := 59) (ls' := []) (st' := [.int (0 : Int32)]) (σ' := σ) hM 0 rfl ?_
  refine Pl.weak (Pl.ret hM rfl rfl h)
set_option maxRecDepth 100000 in
theorem p_223_93 {n d : Nat} {Q : Option Value → Sg → Prop} (σ : Sg) (h : Q (some (.int (0 : Int32))) σ) : Pl PRG (n + 1) d 223 93 [] [] σ Q := by
  have hM : PRG[223]? = some M_223 := rfl
  refine Pl.sg1 (pc' := 94) (ls' := []) (st' := [.int (0 : Int32)]) (σ' := σ) hM 0 rfl ?_
  refine Pl.weak (Pl.ret hM rfl rfl h)
def LV_224 : List (Nat × List Nat) := [(0, [0, 1]), (1, [0, 1]), (4, [0, 1]), (7, [0, 1]), (8, [0, 1]), (11, [0, 1]), (14, [0, 1]), (15, [0, 1]), (18, [0, 1]), (21, []), (22, []), (23, [0, 1]), (24, [1]), (25, []), (28, []), (29, [])]
set_option maxRecDepth 100000 in
theorem lv_224 : chkLv M_224 LV_224 = true := by decide +kernel
set_option maxRecDepth 100000 in
theorem lva_224_21 : lvA LV_224 21 = [] := by decide +kernel
set_option maxRecDepth 100000 in
theorem p_224_0 {n d : Nat} {Q : Option Value → Sg → Prop} (σ : Sg) (x1 : Int32) (h : (((σ.1 97 45) = 0 → Pl PRG n d 224 21 [] [] σ Q) ∧ (¬ (σ.1 97 45) = 0 → ((0 < (σ.1 97 48) → Pl PRG n d 224 21 [] [] σ Q) ∧ (¬ 0 < (σ.1 97 48) → (∀ w2 σ1, RCx PRG n 216 [.int x1] σ (some (.int w2)) σ1 → (w2 = 0 ∨ w2 = 1) → ((w2 = 0 → Pl PRG n d 224 21 [] [] σ1 Q) ∧ (¬ w2 = 0 → Q (some (.int (1 : Int32))) (s1 σ1 97 47 x1))))))))) : Pl PRG (n + 1) d 224 0 [(0, .ref 97), (1, .int x1)] [] σ Q := by
  have hM : PRG[224]? = some M_224 := rfl
  refine Pl.br1 (c := (σ.1 97 45) = 0) (a := 21) (b := 7) (ls' := [(0, .ref 97), (1, .int x1)]) (st' := []) (σ' := σ) hM 2 rfl (fun c => ?_) (fun c => ?_)
  · replace h := h.1 c
    exact Pl.live (l' := []) hM lv_224 ⟨show ndL _ from (by decide : List.Nodup ([0, 1] : List Nat)), show ndL _ from (by decide : List.Nodup ([] : List Nat)), by rw [lva_224_21]; exact fun _ h => absurd h List.not_mem_nil⟩ h
  · replace h := h.2 c
    refine Pl.br (c := 0 < (σ.1 97 48)) (a := 21) (b := 14) (ls' := [(0, .ref 97), (1, .int x1)]) (st' := []) (σ' := σ) hM 3 rfl (fun c => ?_) (fun c => ?_)
    · replace h := h.1 c
      exact Pl.live (l' := []) hM lv_224 ⟨show ndL _ from (by decide : List.Nodup ([0, 1] : List Nat)), show ndL _ from (by decide : List.Nodup ([] : List Nat)), by rw [lva_224_21]; exact fun _ h => absurd h List.not_mem_nil⟩ h
    · replace h := h.2 c
      refine Pl.seg (pc' := 15) (ls' := [(0, .ref 97), (1, .int x1)]) (st' := [.int x1]) (σ' := σ) hM 1 rfl ?_
      refine Pl.weak (Pl.cZ hM rfl rfl (by decide) (Mj := M_216) rfl rfl (fun w2 σ1 hw hz => ?_))
      replace h := h w2 σ1 hw hz
      refine Pl.brN (c := w2 = 0) (a := 23) (b := 21) (ls' := [(0, .ref 97), (1, .int x1)]) (st' := []) (σ' := σ1) hM 1 rfl (fun c => ?_) (fun c => ?_)
      · replace h := h.2 c
        refine Pl.seg (pc' := 29) (ls' := [(0, .ref 97), (1, .int x1)]) (st' := [.int (1 : Int32)]) (σ' := (s1 σ1 97 47 x1)) hM 4 rfl ?_
        refine Pl.weak (Pl.ret hM rfl rfl h)
      · replace h := h.1 c
        exact Pl.live (l' := []) hM lv_224 ⟨show ndL _ from (by decide : List.Nodup ([0, 1] : List Nat)), show ndL _ from (by decide : List.Nodup ([] : List Nat)), by rw [lva_224_21]; exact fun _ h => absurd h List.not_mem_nil⟩ h
set_option maxRecDepth 100000 in
theorem p_224_21 {n d : Nat} {Q : Option Value → Sg → Prop} (σ : Sg) (h : Q (some (.int (0 : Int32))) σ) : Pl PRG (n + 1) d 224 21 [] [] σ Q := by
  have hM : PRG[224]? = some M_224 := rfl
  refine Pl.sg1 (pc' := 22) (ls' := []) (st' := [.int (0 : Int32)]) (σ' := σ) hM 0 rfl ?_
  refine Pl.weak (Pl.ret hM rfl rfl h)
def LV_225 : List (Nat × List Nat) := [(0, [0, 1, 2]), (1, [0, 1, 2]), (2, [0, 1, 2, 3]), (3, [0, 1, 2, 3]), (5, [0, 1, 2, 3, 4]), (7, [0, 1, 2, 3, 4]), (8, [0, 1, 2, 3, 4]), (11, [0, 1, 2, 3, 4]), (12, [0, 1, 2, 3, 4]), (15, [0, 1, 2, 3, 4]), (17, [0, 1, 2, 3, 4]), (18, [0, 1, 2, 3, 4]), (19, [0, 1, 2, 3, 4]), (22, [0, 1, 2, 3, 4]), (23, [0, 1, 2, 4]), (24, [0, 1, 2, 4]), (25, [0, 1, 2, 4]), (28, [0, 1, 2, 4]), (30, [0, 1, 2, 4]), (31, [0, 1, 2, 4]), (32, [0, 1, 2, 4]), (33, [0, 1, 2, 4]), (34, [0, 1, 2, 3, 4]), (37, [0, 1, 2, 3, 4]), (40, [3]), (41, [])]
set_option maxRecDepth 100000 in
theorem lv_225 : chkLv M_225 LV_225 = true := by decide +kernel
set_option maxRecDepth 100000 in
theorem lva_225_5 : lvA LV_225 5 = [0, 1, 2, 3, 4] := by decide +kernel
set_option maxRecDepth 100000 in
theorem lva_225_34 : lvA LV_225 34 = [0, 1, 2, 3, 4] := by decide +kernel
set_option maxRecDepth 100000 in
theorem p_225_0 {n d : Nat} {Q : Option Value → Sg → Prop} (σ : Sg) (x1 x2 : Int32) (h : Pl PRG n d 225 5 [(0, .ref 97), (1, .int x1), (2, .int x2), (3, .int (0 : Int32)), (4, .int (0 : Int32))] [] σ Q) : Pl PRG (n + 1) d 225 0 [(0, .ref 97), (1, .int x1), (2, .int x2)] [] σ Q := by
  have hM : PRG[225]? = some M_225 := rfl
  refine Pl.sg1 (pc' := 5) (ls' := [(4, .int (0 : Int32)), (3, .int (0 : Int32)), (0, .ref 97), (1, .int x1), (2, .int x2)]) (st' := []) (σ' := σ) hM 3 rfl ?_
  exact Pl.live (l' := [(0, .ref 97), (1, .int x1), (2, .int x2), (3, .int (0 : Int32)), (4, .int (0 : Int32))]) hM lv_225 ⟨show ndL _ from (by decide : List.Nodup ([4, 3, 0, 1, 2] : List Nat)), show ndL _ from (by decide : List.Nodup ([0, 1, 2, 3, 4] : List Nat)), by rw [lva_225_5]; exact List.forall_mem_cons.mpr ⟨rfl, List.forall_mem_cons.mpr ⟨rfl, List.forall_mem_cons.mpr ⟨rfl, List.forall_mem_cons.mpr ⟨rfl, List.forall_mem_cons.mpr ⟨rfl, fun _ h => absurd h List.not_mem_nil⟩⟩⟩⟩⟩⟩ h
set_option maxRecDepth 100000 in
theorem p_225_5 {n d : Nat} {Q : Option Value → Sg → Prop} (σ : Sg) (x1 x2 x3 x4 : Int32) (h : ((x2 ≤ x4 → Q (some (.int x3)) σ) ∧ (¬ x2 ≤ x4 → (inR x4 16 = true → (((σ.1 127 x4.toNatClampNeg) = x1 → (inR x4 16 = true → Pl PRG n d 225 34 [(0, .ref 97), (1, .int x1), (2, .int x2), (3, .int (x3 ||| ((1 : Int32) <<< ((σ.1 126 x4.toNatClampNeg) &&& 31)))), (4, .int x4)] [] σ Q)) ∧ (¬ (σ.1 127 x4.toNatClampNeg) = x1 → Pl PRG n d 225 34 [(0, .ref 97), (1, .int x1), (2, .int x2), (3, .int x3), (4, .int x4)] [] σ Q)))))) : Pl PRG (n + 1) d 225 5 [(0, .ref 97), (1, .int x1), (2, .int x2), (3, .int x3), (4, .int x4)] [] σ Q := by
  have hM : PRG[225]? = some M_225 := rfl
  refine Pl.br1 (c := x2 ≤ x4) (a := 40) (b := 11) (ls' := [(0, .ref 97), (1, .int x1), (2, .int x2), (3, .int x3), (4, .int x4)]) (st' := []) (σ' := σ) hM 2 rfl (fun c => ?_) (fun c => ?_)
  · replace h := h.1 c
    refine Pl.seg (pc' := 41) (ls' := [(0, .ref 97), (1, .int x1), (2, .int x2), (3, .int x3), (4, .int x4)]) (st' := [.int x3]) (σ' := σ) hM 1 rfl ?_
    refine Pl.weak (Pl.ret hM rfl rfl h)
  · replace h := h.2 c
    refine Pl.seg (pc' := 17) (ls' := [(0, .ref 97), (1, .int x1), (2, .int x2), (3, .int x3), (4, .int x4)]) (st' := [.int x4, .ref 127]) (σ' := σ) hM 3 rfl ?_
    refine Pl.weak (Pl.iald hM rfl rfl (fun hi => ?_))
    replace h := h hi
    refine Pl.brN (c := (σ.1 127 x4.toNatClampNeg) = x1) (a := 34) (b := 22) (ls' := [(0, .ref 97), (1, .int x1), (2, .int x2), (3, .int x3), (4, .int x4)]) (st' := []) (σ' := σ) hM 2 rfl (fun c => ?_) (fun c => ?_)
    · replace h := h.2 c
      exact Pl.live (l' := [(0, .ref 97), (1, .int x1), (2, .int x2), (3, .int x3), (4, .int x4)]) hM lv_225 ⟨show ndL _ from (by decide : List.Nodup ([0, 1, 2, 3, 4] : List Nat)), show ndL _ from (by decide : List.Nodup ([0, 1, 2, 3, 4] : List Nat)), by rw [lva_225_34]; exact List.forall_mem_cons.mpr ⟨rfl, List.forall_mem_cons.mpr ⟨rfl, List.forall_mem_cons.mpr ⟨rfl, List.forall_mem_cons.mpr ⟨rfl, List.forall_mem_cons.mpr ⟨rfl, fun _ h => absurd h List.not_mem_nil⟩⟩⟩⟩⟩⟩ h
    · replace h := h.1 c
      refine Pl.seg (pc' := 30) (ls' := [(0, .ref 97), (1, .int x1), (2, .int x2), (3, .int x3), (4, .int x4)]) (st' := [.int x4, .ref 126, .int (1 : Int32), .int x3]) (σ' := σ) hM 5 rfl ?_
      refine Pl.weak (Pl.iald hM rfl rfl (fun hi => ?_))
      replace h := h hi
      refine Pl.seg (pc' := 34) (ls' := [(3, .int (x3 ||| ((1 : Int32) <<< ((σ.1 126 x4.toNatClampNeg) &&& 31)))), (0, .ref 97), (1, .int x1), (2, .int x2), (4, .int x4)]) (st' := []) (σ' := σ) hM 3 rfl ?_
      exact Pl.live (l' := [(0, .ref 97), (1, .int x1), (2, .int x2), (3, .int (x3 ||| ((1 : Int32) <<< ((σ.1 126 x4.toNatClampNeg) &&& 31)))), (4, .int x4)]) hM lv_225 ⟨show ndL _ from (by decide : List.Nodup ([3, 0, 1, 2, 4] : List Nat)), show ndL _ from (by decide : List.Nodup ([0, 1, 2, 3, 4] : List Nat)), by rw [lva_225_34]; exact List.forall_mem_cons.mpr ⟨rfl, List.forall_mem_cons.mpr ⟨rfl, List.forall_mem_cons.mpr ⟨rfl, List.forall_mem_cons.mpr ⟨rfl, List.forall_mem_cons.mpr ⟨rfl, fun _ h => absurd h List.not_mem_nil⟩⟩⟩⟩⟩⟩ h
set_option maxRecDepth 100000 in
theorem p_225_34 {n d : Nat} {Q : Option Value → Sg → Prop} (σ : Sg) (x1 x2 x3 x4 : Int32) (h : Pl PRG n d 225 5 [(0, .ref 97), (1, .int x1), (2, .int x2), (3, .int x3), (4, .int (x4 + (1 : Int32)))] [] σ Q) : Pl PRG (n + 1) d 225 34 [(0, .ref 97), (1, .int x1), (2, .int x2), (3, .int x3), (4, .int x4)] [] σ Q := by
  have hM : PRG[225]? = some M_225 := rfl
  refine Pl.sg1 (pc' := 5) (ls' := [(4, .int (x4 + (1 : Int32))), (0, .ref 97), (1, .int x1), (2, .int x2), (3, .int x3)]) (st' := []) (σ' := σ) hM 1 rfl ?_
  exact Pl.live (l' := [(0, .ref 97), (1, .int x1), (2, .int x2), (3, .int x3), (4, .int (x4 + (1 : Int32)))]) hM lv_225 ⟨show ndL _ from (by decide : List.Nodup ([4, 0, 1, 2, 3] : List Nat)), show ndL _ from (by decide : List.Nodup ([0, 1, 2, 3, 4] : List Nat)), by rw [lva_225_5]; exact List.forall_mem_cons.mpr ⟨rfl, List.forall_mem_cons.mpr ⟨rfl, List.forall_mem_cons.mpr ⟨rfl, List.forall_mem_cons.mpr ⟨rfl, List.forall_mem_cons.mpr ⟨rfl, fun _ h => absurd h List.not_mem_nil⟩⟩⟩⟩⟩⟩ h
set_option maxRecDepth 100000 in
theorem p_226_0 {n d : Nat} {Q : Option Value → Sg → Prop} (σ : Sg) (x1 : Int32) (h : (inR x1 4 = true → (∀ w2 σ1, RCx PRG n 225 [.ref 97, .int x1, .int (σ.1 97 48)] σ (some (.int w2)) σ1 → Q (some (.int ((σ.1 125 x1.toNatClampNeg) &&& (w2 ^^^ (-1 : Int32))))) σ1))) : Pl PRG (n + 1) d 226 0 [(0, .ref 97), (1, .int x1)] [] σ Q := by
  have hM : PRG[226]? = some M_226 := rfl
  refine Pl.sg1 (pc' := 5) (ls' := [(0, .ref 97), (1, .int x1)]) (st' := [.int x1, .ref 125]) (σ' := σ) hM 2 rfl ?_
  refine Pl.weak (Pl.iald hM rfl rfl (fun hi => ?_))
  replace h := h hi
  refine Pl.seg (pc' := 12) (ls' := [(0, .ref 97), (1, .int x1)]) (st' := [.int (σ.1 97 48), .int x1, .ref 97, .int (σ.1 125 x1.toNatClampNeg)]) (σ' := σ) hM 4 rfl ?_
  refine Pl.weak (Pl.cI hM rfl rfl (by decide) (Mj := M_225) rfl rfl (fun w2 σ1 hw => ?_))
  replace h := h w2 σ1 hw
  refine Pl.seg (pc' := 18) (ls' := [(0, .ref 97), (1, .int x1)]) (st' := [.int ((σ.1 125 x1.toNatClampNeg) &&& (w2 ^^^ (-1 : Int32)))]) (σ' := σ1) hM 3 rfl ?_
  refine Pl.weak (Pl.ret hM rfl rfl h)
def LV_227 : List (Nat × List Nat) := [(0, [0, 1, 2]), (1, [0, 1, 2]), (4, [0, 1, 2]), (7, [0, 1, 2]), (8, [0, 1, 2]), (11, [0, 1, 2]), (14, []), (15, []), (18, [0, 1, 2]), (19, [0, 1]), (22, [0, 1]), (23, [1]), (26, [1]), (27, []), (28, []), (31, [0, 1]), (32, [1]), (33, []), (36, [])]
set_option maxRecDepth 100000 in
theorem lv_227 : chkLv M_227 LV_227 = true := by decide +kernel
set_option maxRecDepth 100000 in
theorem lva_227_14 : lvA LV_227 14 = [] := by decide +kernel
set_option maxRecDepth 100000 in
theorem p_227_0 {n d : Nat} {Q : Option Value → Sg → Prop} (σ : Sg) (x1 x2 : Int32) (h : (((σ.1 97 45) = 0 → Pl PRG n d 227 14 [] [] σ Q) ∧ (¬ (σ.1 97 45) = 0 → (∀ w2 σ1, RCx PRG n 216 [.int x1] σ (some (.int w2)) σ1 → (w2 = 0 ∨ w2 = 1) → ((w2 = 0 → Pl PRG n d 227 14 [] [] σ1 Q) ∧ (¬ w2 = 0 → ((x2 = 0 → (∀ w4 σ3, RCx PRG n 226 [.ref 97, .int x1] σ1 (some (.int w4)) σ3 → Q (some (.int w4)) σ3)) ∧ (¬ x2 = 0 → (inR x1 4 = true → Q (some (.int (σ1.1 125 x1.toNatClampNeg))) σ1))))))))) : Pl PRG (n + 1) d 227 0 [(0, .ref 97), (1, .int x1), (2, .int x2)] [] σ Q := by
  have hM : PRG[227]? = some M_227 := rfl
  refine Pl.br1 (c := (σ.1 97 45) = 0) (a := 14) (b := 7) (ls' := [(0, .ref 97), (1, .int x1), (2, .int x2)]) (st' := []) (σ' := σ) hM 2 rfl (fun c => ?_) (fun c => ?_)
  · replace h := h.1 c
    exact Pl.live (l' := []) hM lv_227 ⟨show ndL _ from (by decide : List.Nodup ([0, 1, 2] : List Nat)), show ndL _ from (by decide : List.Nodup ([] : List Nat)), by rw [lva_227_14]; exact fun _ h => absurd h List.not_mem_nil⟩ h
  · replace h := h.2 c
    refine Pl.seg (pc' := 8) (ls' := [(0, .ref 97), (1, .int x1), (2, .int x2)]) (st' := [.int x1]) (σ' := σ) hM 1 rfl ?_
    refine Pl.weak (Pl.cZ hM rfl rfl (by decide) (Mj := M_216) rfl rfl (fun w2 σ1 hw hz => ?_))
    replace h := h w2 σ1 hw hz
    refine Pl.brN (c := w2 = 0) (a := 18) (b := 14) (ls' := [(0, .ref 97), (1, .int x1), (2, .int x2)]) (st' := []) (σ' := σ1) hM 1 rfl (fun c => ?_) (fun c => ?_)
    · replace h := h.2 c
      refine Pl.br (c := x2 = 0) (a := 31) (b := 22) (ls' := [(0, .ref 97), (1, .int x1), (2, .int x2)]) (st' := []) (σ' := σ1) hM 2 rfl (fun c => ?_) (fun c => ?_)
      · replace h := h.1 c
        refine Pl.seg (pc' := 33) (ls' := [(0, .ref 97), (1, .int x1), (2, .int x2)]) (st' := [.int x1, .ref 97]) (σ' := σ1) hM 2 rfl ?_
        refine Pl.weak (Pl.cI hM rfl rfl (by decide) (Mj := M_226) rfl rfl (fun w4 σ3 hw => ?_))
        replace h := h w4 σ3 hw
        refine Pl.weak (Pl.ret hM rfl rfl h)
      · replace h := h.2 c
        refine Pl.seg (pc' := 27) (ls' := [(0, .ref 97), (1, .int x1), (2, .int x2)]) (st' := [.int x1, .ref 125]) (σ' := σ1) hM 3 rfl ?_
        refine Pl.weak (Pl.iald hM rfl rfl (fun hi => ?_))
        replace h := h hi
        refine Pl.seg (pc' := 36) (ls' := [(0, .ref 97), (1, .int x1), (2, .int x2)]) (st' := [.int (σ1.1 125 x1.toNatClampNeg)]) (σ' := σ1) hM 1 rfl ?_
        refine Pl.weak (Pl.ret hM rfl rfl h)
    · replace h := h.1 c
      exact Pl.live (l' := []) hM lv_227 ⟨show ndL _ from (by decide : List.Nodup ([0, 1, 2] : List Nat)), show ndL _ from (by decide : List.Nodup ([] : List Nat)), by rw [lva_227_14]; exact fun _ h => absurd h List.not_mem_nil⟩ h
set_option maxRecDepth 100000 in
theorem p_227_14 {n d : Nat} {Q : Option Value → Sg → Prop} (σ : Sg) (h : Q (some (.int (-1 : Int32))) σ) : Pl PRG (n + 1) d 227 14 [] [] σ Q := by
  have hM : PRG[227]? = some M_227 := rfl
  refine Pl.sg1 (pc' := 36) (ls' := []) (st' := [.int (-1 : Int32)]) (σ' := σ) hM 1 rfl ?_
  refine Pl.weak (Pl.ret hM rfl rfl h)
set_option maxRecDepth 100000 in
theorem p_228_0 {n d : Nat} {Q : Option Value → Sg → Prop} (σ : Sg) (x1 x2 : Int32) (h : (∀ w2 σ1, RCx PRG n 212 [.ref 97, .int x1] σ (some (.int w2)) σ1 → (∀ w4 σ3, RCx PRG n 212 [.ref 97, .int x2] σ1 (some (.int w4)) σ3 → ((w2 = w4 → ((x1 ≤ x2 → Q (some (.int (0 : Int32))) σ3) ∧ (¬ x1 ≤ x2 → Q (some (.int (1 : Int32))) σ3))) ∧ (¬ w2 = w4 → (∀ w6 σ5, RCx PRG n 212 [.ref 97, .int x1] σ3 (some (.int w6)) σ5 → (∀ w8 σ7, RCx PRG n 214 [.ref 97] σ5 (some (.int w8)) σ7 → ((w6 = w8 → Q (some (.int (1 : Int32))) σ7) ∧ (¬ w6 = w8 → Q (some (.int (0 : Int32))) σ7))))))))) : Pl PRG (n + 1) d 228 0 [(0, .ref 97), (1, .int x1), (2, .int x2)] [] σ Q := by
  have hM : PRG[228]? = some M_228 := rfl
  refine Pl.sg1 (pc' := 2) (ls' := [(0, .ref 97), (1, .int x1), (2, .int x2)]) (st' := [.int x1, .ref 97]) (σ' := σ) hM 1 rfl ?_
  refine Pl.weak (Pl.cI hM rfl rfl (by decide) (Mj := M_212) rfl rfl (fun w2 σ1 hw => ?_))
  replace h := h w2 σ1 hw
  refine Pl.seg (pc' := 7) (ls' := [(0, .ref 97), (1, .int x1), (2, .int x2)]) (st' := [.int x2, .ref 97, .int w2]) (σ' := σ1) hM 2 rfl ?_
  refine Pl.weak (Pl.cI hM rfl rfl (by decide) (Mj := M_212) rfl rfl (fun w4 σ3 hw => ?_))
  replace h := h w4 σ3 hw
  refine Pl.brN (c := w2 = w4) (a := 24) (b := 13) (ls' := [(0, .ref 97), (1, .int x1), (2, .int x2)]) (st' := []) (σ' := σ3) hM 1 rfl (fun c => ?_) (fun c => ?_)
  · replace h := h.2 c
    refine Pl.seg (pc' := 26) (ls' := [(0, .ref 97), (1, .int x1), (2, .int x2)]) (st' := [.int x1, .ref 97]) (σ' := σ3) hM 2 rfl ?_
    refine Pl.weak (Pl.cI hM rfl rfl (by decide) (Mj := M_212) rfl rfl (fun w6 σ5 hw => ?_))
    replace h := h w6 σ5 hw
    refine Pl.seg (pc' := 30) (ls' := [(0, .ref 97), (1, .int x1), (2, .int x2)]) (st' := [.ref 97, .int w6]) (σ' := σ5) hM 1 rfl ?_
    refine Pl.weak (Pl.cI hM rfl rfl (by decide) (Mj := M_214) rfl rfl (fun w8 σ7 hw => ?_))
    replace h := h w8 σ7 hw
    refine Pl.brN (c := w6 = w8) (a := 40) (b := 36) (ls' := [(0, .ref 97), (1, .int x1), (2, .int x2)]) (st' := []) (σ' := σ7) hM 1 rfl (fun c => ?_) (fun c => ?_)
    · replace h := h.2 c
      refine Pl.seg (pc' := 41) (ls' := [(0, .ref 97), (1, .int x1), (2, .int x2)]) (st' := [.int (0 : Int32)]) (σ' := σ7) hM 1 rfl ?_
      refine Pl.weak (Pl.ret hM rfl rfl h)
    · replace h := h.1 c
      refine Pl.seg (pc' := 41) (ls' := [(0, .ref 97), (1, .int x1), (2, .int x2)]) (st' := [.int (1 : Int32)]) (σ' := σ7) hM 2 rfl ?_
      refine Pl.weak (Pl.ret hM rfl rfl h)
  · replace h := h.1 c
    refine Pl.br (c := x1 ≤ x2) (a := 22) (b := 18) (ls' := [(0, .ref 97), (1, .int x1), (2, .int x2)]) (st' := []) (σ' := σ3) hM 3 rfl (fun c => ?_) (fun c => ?_)
    · replace h := h.1 c
      refine Pl.seg (pc' := 23) (ls' := [(0, .ref 97), (1, .int x1), (2, .int x2)]) (st' := [.int (0 : Int32)]) (σ' := σ3) hM 1 rfl ?_
      refine Pl.weak (Pl.ret hM rfl rfl h)
    · replace h := h.2 c
      refine Pl.seg (pc' := 23) (ls' := [(0, .ref 97), (1, .int x1), (2, .int x2)]) (st' := [.int (1 : Int32)]) (σ' := σ3) hM 2 rfl ?_
      refine Pl.weak (Pl.ret hM rfl rfl h)
def LV_229 : List (Nat × List Nat) := [(0, [0, 1]), (1, [0, 1]), (2, [0, 1]), (3, [0, 1]), (4, [0, 1, 2]), (5, [0, 1, 2]), (6, [0, 1, 2]), (7, [0, 1, 2]), (8, [0, 1, 2, 3]), (9, [0, 1, 2, 3]), (10, [0, 1, 2, 3]), (11, [0, 1, 2, 3]), (12, [0, 1, 2, 3]), (13, [0, 1, 2, 3]), (14, [0, 1, 2, 3]), (17, [0, 1, 2, 3]), (18, [0, 1, 2, 3]), (19, [0, 1, 2, 3]), (22, [0, 1, 2, 3]), (23, [0, 1, 2, 3]), (24, [0, 1, 2, 3]), (25, [0, 1, 2, 3]), (28, [0, 1, 2, 3]), (29, [0, 1, 2, 3]), (30, [0, 1, 2, 3]), (33, [0, 1, 2, 3]), (36, [0, 1, 3]), (37, [0, 1, 3]), (38, [0, 1, 2, 3]), (41, [0, 1, 2, 3]), (44, [0, 2]), (45, [2]), (48, [2]), (49, []), (50, [])]
set_option maxRecDepth 100000 in
theorem lv_229 : chkLv M_229 LV_229 = true := by decide +kernel
set_option maxRecDepth 100000 in
theorem lva_229_8 : lvA LV_229 8 = [0, 1, 2, 3] := by decide +kernel
set_option maxRecDepth 100000 in
theorem lva_229_38 : lvA LV_229 38 = [0, 1, 2, 3] := by decide +kernel
set_option maxRecDepth 100000 in
theorem p_229_0 {n d : Nat} {Q : Option Value → Sg → Prop} (σ : Sg) (x1 : Int32) (h : Pl PRG n d 229 8 [(0, .ref 97), (1, .int x1), (2, .int ((4 : Int32) * x1)), (3, .int (((4 : Int32) * x1) + (1 : Int32)))] [] σ Q) : Pl PRG (n + 1) d 229 0 [(0, .ref 97), (1, .int x1)] [] σ Q := by
  have hM : PRG[229]? = some M_229 := rfl
  refine Pl.sg1 (pc' := 8) (ls' := [(3, .int (((4 : Int32) * x1) + (1 : Int32))), (2, .int ((4 : Int32) * x1)), (0, .ref 97), (1, .int x1)]) (st' := []) (σ' := σ) hM 7 rfl ?_
  exact Pl.live (l' := [(0, .ref 97), (1, .int x1), (2, .int ((4 : Int32) * x1)), (3, .int (((4 : Int32) * x1) + (1 : Int32)))]) hM lv_229 ⟨show ndL _ from (by decide : List.Nodup ([3, 2, 0, 1] : List Nat)), show ndL _ from (by decide : List.Nodup ([0, 1, 2, 3] : List Nat)), by rw [lva_229_8]; exact List.forall_mem_cons.mpr ⟨rfl, List.forall_mem_cons.mpr ⟨rfl, List.forall_mem_cons.mpr ⟨rfl, List.forall_mem_cons.mpr ⟨rfl, fun _ h => absurd h List.not_mem_nil⟩⟩⟩⟩⟩ h
set_option maxRecDepth 100000 in
theorem p_229_8 {n d : Nat} {Q : Option Value → Sg → Prop} (σ : Sg) (x1 x2 x3 : Int32) (h : (((((4 : Int32) * x1) + (4 : Int32)) ≤ x3 → (inR x2 16 = true → Q (some (.int (σ.1 127 x2.toNatClampNeg))) σ)) ∧ (¬ (((4 : Int32) * x1) + (4 : Int32)) ≤ x3 → (inR x3 16 = true → (inR x2 16 = true → (∀ w2 σ1, RCx PRG n 228 [.ref 97, .int (σ.1 126 x3.toNatClampNeg), .int (σ.1 126 x2.toNatClampNeg)] σ (some (.int w2)) σ1 → (w2 = 0 ∨ w2 = 1) → ((w2 = 0 → Pl PRG n d 229 38 [(0, .ref 97), (1, .int x1), (2, .int x2), (3, .int x3)] [] σ1 Q) ∧ (¬ w2 = 0 → Pl PRG n d 229 38 [(0, .ref 97), (1, .int x1), (2, .int x3), (3, .int x3)] [] σ1 Q)))))))) : Pl PRG (n + 1) d 229 8 [(0, .ref 97), (1, .int x1), (2, .int x2), (3, .int x3)] [] σ Q := by
  have hM : PRG[229]? = some M_229 := rfl
  refine Pl.br1 (c := (((4 : Int32) * x1) + (4 : Int32)) ≤ x3) (a := 44) (b := 17) (ls' := [(0, .ref 97), (1, .int x1), (2, .int x2), (3, .int x3)]) (st' := []) (σ' := σ) hM 6 rfl (fun c => ?_) (fun c => ?_)
  · replace h := h.1 c
    refine Pl.seg (pc' := 49) (ls' := [(0, .ref 97), (1, .int x1), (2, .int x2), (3, .int x3)]) (st' := [.int x2, .ref 127]) (σ' := σ) hM 3 rfl ?_
    refine Pl.weak (Pl.iald hM rfl rfl (fun hi => ?_))
    replace h := h hi
    refine Pl.weak (Pl.ret hM rfl rfl h)
  · replace h := h.2 c
    refine Pl.seg (pc' := 23) (ls' := [(0, .ref 97), (1, .int x1), (2, .int x2), (3, .int x3)]) (st' := [.int x3, .ref 126, .ref 97]) (σ' := σ) hM 4 rfl ?_
    refine Pl.weak (Pl.iald hM rfl rfl (fun hi => ?_))
    replace h := h hi
    refine Pl.seg (pc' := 29) (ls' := [(0, .ref 97), (1, .int x1), (2, .int x2), (3, .int x3)]) (st' := [.int x2, .ref 126, .int (σ.1 126 x3.toNatClampNeg), .ref 97]) (σ' := σ) hM 3 rfl ?_
    refine Pl.weak (Pl.iald hM rfl rfl (fun hi => ?_))
    replace h := h hi
    refine Pl.weak (Pl.cZ hM rfl rfl (by decide) (Mj := M_228) rfl rfl (fun w2 σ1 hw hz => ?_))
    replace h := h w2 σ1 hw hz
    refine Pl.br (c := w2 = 0) (a := 38) (b := 36) (ls' := [(0, .ref 97), (1, .int x1), (2, .int x2), (3, .int x3)]) (st' := []) (σ' := σ1) hM 1 rfl (fun c => ?_) (fun c => ?_)
    · replace h := h.1 c
      exact Pl.live (l' := [(0, .ref 97), (1, .int x1), (2, .int x2), (3, .int x3)]) hM lv_229 ⟨show ndL _ from (by decide : List.Nodup ([0, 1, 2, 3] : List Nat)), show ndL _ from (by decide : List.Nodup ([0, 1, 2, 3] : List Nat)), by rw [lva_229_38]; exact List.forall_mem_cons.mpr ⟨rfl, List.forall_mem_cons.mpr ⟨rfl, List.forall_mem_cons.mpr ⟨rfl, List.forall_mem_cons.mpr ⟨rfl, fun _ h => absurd h List.not_mem_nil⟩⟩⟩⟩⟩ h
    · replace h := h.2 c
      refine Pl.seg (pc' := 38) (ls' := [(2, .int x3), (0, .ref 97), (1, .int x1), (3, .int x3)]) (st' := []) (σ' := σ1) hM 2 rfl ?_
      exact Pl.live (l' := [(0, .ref 97), (1, .int x1), (2, .int x3), (3, .int x3)]) hM lv_229 ⟨show ndL _ from (by decide : List.Nodup ([2, 0, 1, 3] : List Nat)), show ndL _ from (by decide : List.Nodup ([0, 1, 2, 3] : List Nat)), by rw [lva_229_38]; exact List.forall_mem_cons.mpr ⟨rfl, List.forall_mem_cons.mpr ⟨rfl, List.forall_mem_cons.mpr ⟨rfl, List.forall_mem_cons.mpr ⟨rfl, fun _ h => absurd h List.not_mem_nil⟩⟩⟩⟩⟩ h
set_option maxRecDepth 100000 in
theorem p_229_38 {n d : Nat} {Q : Option Value → Sg → Prop} (σ : Sg) (x1 x2 x3 : Int32) (h : Pl PRG n d 229 8 [(0, .ref 97), (1, .int x1), (2, .int x2), (3, .int (x3 + (1 : Int32)))] [] σ Q) : Pl PRG (n + 1) d 229 38 [(0, .ref 97), (1, .int x1), (2, .int x2), (3, .int x3)] [] σ Q := by
  have hM : PRG[229]? = some M_229 := rfl
  refine Pl.sg1 (pc' := 8) (ls' := [(3, .int (x3 + (1 : Int32))), (0, .ref 97), (1, .int x1), (2, .int x2)]) (st' := []) (σ' := σ) hM 1 rfl ?_
  exact Pl.live (l' := [(0, .ref 97), (1, .int x1), (2, .int x2), (3, .int (x3 + (1 : Int32)))]) hM lv_229 ⟨show ndL _ from (by decide : List.Nodup ([3, 0, 1, 2] : List Nat)), show ndL _ from (by decide : List.Nodup ([0, 1, 2, 3] : List Nat)), by rw [lva_229_8]; exact List.forall_mem_cons.mpr ⟨rfl, List.forall_mem_cons.mpr ⟨rfl, List.forall_mem_cons.mpr ⟨rfl, List.forall_mem_cons.mpr ⟨rfl, fun _ h => absurd h List.not_mem_nil⟩⟩⟩⟩⟩ h
def LV_230 : List (Nat × List Nat) := [(0, [0]), (1, [0]), (4, [0]), (7, [0]), (8, [0]), (11, [0]), (12, [0]), (15, [0]), (18, []), (20, []), (21, [0]), (22, [0]), (25, [0]), (26, [0]), (27, [0]), (30, [0]), (31, [0]), (34, [0]), (35, []), (38, []), (39, []), (40, []), (41, []), (42, []), (43, []), (44, []), (45, []), (46, [0]), (47, [0]), (50, [0]), (53, [0]), (54, []), (57, []), (60, [0]), (61, [0]), (62, []), (65, []), (66, []), (67, []), (68, []), (69, []), (72, [])]
set_option maxRecDepth 100000 in
theorem lv_230 : chkLv M_230 LV_230 = true := by decide +kernel
set_option maxRecDepth 100000 in
theorem lva_230_18 : lvA LV_230 18 = [] := by decide +kernel
set_option maxRecDepth 100000 in
theorem p_230_0 {n d : Nat} {Q : Option Value → Sg → Prop} (σ : Sg) (h : (((σ.1 97 45) = 0 → Pl PRG n d 230 18 [] [] σ Q) ∧ (¬ (σ.1 97 45) = 0 → (∀ w2 σ1, RCx PRG n 210 [.ref 97] σ (some (.int w2)) σ1 → (((σ.1 97 48) = w2 → Pl PRG n d 230 18 [] [] σ1 Q) ∧ (¬ (σ.1 97 48) = w2 → ((((σ1.1 97 48) - (σ1.1 97 48) / (4 : Int32) * (4 : Int32)) ≤ 0 → (((σ1.1 97 48) = 0 → Q (some (.int (σ1.1 97 47))) σ1) ∧ (¬ (σ1.1 97 48) = 0 → (∀ w4 σ3, RCx PRG n 229 [.ref 97, .int (((σ1.1 97 48) / (4 : Int32)) - (1 : Int32))] σ1 (some (.int w4)) σ3 → Q (some (.int w4)) σ3)))) ∧ (¬ ((σ1.1 97 48) - (σ1.1 97 48) / (4 : Int32) * (4 : Int32)) ≤ 0 → (inR ((σ1.1 97 48) - (1 : Int32)) 16 = true → Q (some (.int (((σ1.1 127 ((σ1.1 97 48) - (1 : Int32)).toNatClampNeg) + (1 : Int32)) - ((σ1.1 127 ((σ1.1 97 48) - (1 : Int32)).toNatClampNeg) + (1 : Int32)) / (4 : Int32) * (4 : Int32)))) σ1))))))))) : Pl PRG (n + 1) d 230 0 [(0, .ref 97)] [] σ Q := by
  have hM : PRG[230]? = some M_230 := rfl
  refine Pl.br1 (c := (σ.1 97 45) = 0) (a := 18) (b := 7) (ls' := [(0, .ref 97)]) (st' := []) (σ' := σ) hM 2 rfl (fun c => ?_) (fun c => ?_)
  · replace h := h.1 c
    exact Pl.live (l' := []) hM lv_230 ⟨show ndL _ from (by decide : List.Nodup ([0] : List Nat)), show ndL _ from (by decide : List.Nodup ([] : List Nat)), by rw [lva_230_18]; exact fun _ h => absurd h List.not_mem_nil⟩ h
  · replace h := h.2 c
    refine Pl.seg (pc' := 12) (ls' := [(0, .ref 97)]) (st' := [.ref 97, .int (σ.1 97 48)]) (σ' := σ) hM 3 rfl ?_
    refine Pl.weak (Pl.cI hM rfl rfl (by decide) (Mj := M_210) rfl rfl (fun w2 σ1 hw => ?_))
    replace h := h w2 σ1 hw
    refine Pl.brN (c := (σ.1 97 48) = w2) (a := 21) (b := 18) (ls' := [(0, .ref 97)]) (st' := []) (σ' := σ1) hM 1 rfl (fun c => ?_) (fun c => ?_)
    · replace h := h.2 c
      refine Pl.br (c := ((σ1.1 97 48) - (σ1.1 97 48) / (4 : Int32) * (4 : Int32)) ≤ 0) (a := 46) (b := 30) (ls' := [(0, .ref 97)]) (st' := []) (σ' := σ1) hM 5 rfl (fun c => ?_) (fun c => ?_)
      · replace h := h.1 c
        refine Pl.brN (c := (σ1.1 97 48) = 0) (a := 60) (b := 53) (ls' := [(0, .ref 97)]) (st' := []) (σ' := σ1) hM 3 rfl (fun c => ?_) (fun c => ?_)
        · replace h := h.2 c
          refine Pl.seg (pc' := 69) (ls' := [(0, .ref 97)]) (st' := [.int (((σ1.1 97 48) / (4 : Int32)) - (1 : Int32)), .ref 97]) (σ' := σ1) hM 7 rfl ?_
          refine Pl.weak (Pl.cI hM rfl rfl (by decide) (Mj := M_229) rfl rfl (fun w4 σ3 hw => ?_))
          replace h := h w4 σ3 hw
          refine Pl.weak (Pl.ret hM rfl rfl h)
        · replace h := h.1 c
          refine Pl.seg (pc' := 72) (ls' := [(0, .ref 97)]) (st' := [.int (σ1.1 97 47)]) (σ' := σ1) hM 3 rfl ?_
          refine Pl.weak (Pl.ret hM rfl rfl h)
      · replace h := h.2 c
        refine Pl.seg (pc' := 40) (ls' := [(0, .ref 97)]) (st' := [.int ((σ1.1 97 48) - (1 : Int32)), .ref 127]) (σ' := σ1) hM 6 rfl ?_
        refine Pl.weak (Pl.iald hM rfl rfl (fun hi => ?_))
        replace h := h hi
        refine Pl.seg (pc' := 45) (ls' := [(0, .ref 97)]) (st' := [.int (((σ1.1 127 ((σ1.1 97 48) - (1 : Int32)).toNatClampNeg) + (1 : Int32)) - ((σ1.1 127 ((σ1.1 97 48) - (1 : Int32)).toNatClampNeg) + (1 : Int32)) / (4 : Int32) * (4 : Int32))]) (σ' := σ1) hM 4 rfl ?_
        refine Pl.weak (Pl.ret hM rfl rfl h)
    · replace h := h.1 c
      exact Pl.live (l' := []) hM lv_230 ⟨show ndL _ from (by decide : List.Nodup ([0] : List Nat)), show ndL _ from (by decide : List.Nodup ([] : List Nat)), by rw [lva_230_18]; exact fun _ h => absurd h List.not_mem_nil⟩ h
set_option maxRecDepth 100000 in
theorem p_230_18 {n d : Nat} {Q : Option Value → Sg → Prop} (σ : Sg) (h : Q (some (.int (-2 : Int32))) σ) : Pl PRG (n + 1) d 230 18 [] [] σ Q := by
  have hM : PRG[230]? = some M_230 := rfl
  refine Pl.sg1 (pc' := 20) (ls' := []) (st' := [.int (-2 : Int32)]) (σ' := σ) hM 0 rfl ?_
  refine Pl.weak (Pl.ret hM rfl rfl h)
set_option maxRecDepth 100000 in
theorem p_231_0 {n d : Nat} {Q : Option Value → Sg → Prop} (σ : Sg) (h : (∀ w2 σ1, RCx PRG n 230 [.ref 97] σ (some (.int w2)) σ1 → Q (some (.int w2)) σ1)) : Pl PRG (n + 1) d 231 0 [(0, .ref 97)] [] σ Q := by
  have hM : PRG[231]? = some M_231 := rfl
  refine Pl.sg1 (pc' := 1) (ls' := [(0, .ref 97)]) (st' := [.ref 97]) (σ' := σ) hM 0 rfl ?_
  refine Pl.weak (Pl.cI hM rfl rfl (by decide) (Mj := M_230) rfl rfl (fun w2 σ1 hw => ?_))
  replace h := h w2 σ1 hw
  refine Pl.weak (Pl.ret hM rfl rfl h)
set_option maxRecDepth 100000 in
theorem p_232_0 {n d : Nat} {Q : Option Value → Sg → Prop} (σ : Sg) (x1 : Int32) (h : (((x1 - x1 / (4 : Int32) * (4 : Int32)) = 0 → Q (some (.int (-1 : Int32))) σ) ∧ (¬ (x1 - x1 / (4 : Int32) * (4 : Int32)) = 0 → (inR (x1 - (x1 - x1 / (4 : Int32) * (4 : Int32))) 16 = true → (∀ w2 σ1, RCx PRG n 212 [.ref 97, .int (σ.1 126 (x1 - (x1 - x1 / (4 : Int32) * (4 : Int32))).toNatClampNeg)] σ (some (.int w2)) σ1 → Q (some (.int w2)) σ1))))) : Pl PRG (n + 1) d 232 0 [(0, .ref 97), (1, .int x1)] [] σ Q := by
  have hM : PRG[232]? = some M_232 := rfl
  refine Pl.brN1 (c := (x1 - x1 / (4 : Int32) * (4 : Int32)) = 0) (a := 10) (b := 6) (ls' := [(0, .ref 97), (1, .int x1)]) (st' := []) (σ' := σ) hM 3 rfl (fun c => ?_) (fun c => ?_)
  · replace h := h.2 c
    refine Pl.seg (pc' := 20) (ls' := [(0, .ref 97), (1, .int x1)]) (st' := [.int (x1 - (x1 - x1 / (4 : Int32) * (4 : Int32))), .ref 126, .ref 97]) (σ' := σ) hM 8 rfl ?_
    refine Pl.weak (Pl.iald hM rfl rfl (fun hi => ?_))
    replace h := h hi
    refine Pl.weak (Pl.cI hM rfl rfl (by decide) (Mj := M_212) rfl rfl (fun w2 σ1 hw => ?_))
    replace h := h w2 σ1 hw
    refine Pl.weak (Pl.ret hM rfl rfl h)
  · replace h := h.1 c
    refine Pl.seg (pc' := 24) (ls' := [(0, .ref 97), (1, .int x1)]) (st' := [.int (-1 : Int32)]) (σ' := σ) hM 2 rfl ?_
    refine Pl.weak (Pl.ret hM rfl rfl h)
set_option maxRecDepth 100000 in
theorem p_233_0 {n d : Nat} {Q : Option Value → Sg → Prop} (σ : Sg) (h : (∀ w2 σ1, RCx PRG n 230 [.ref 97] σ (some (.int w2)) σ1 → ((0 ≤ w2 → (∀ w4 σ3, RCx PRG n 226 [.ref 97, .int w2] σ1 (some (.int w4)) σ3 → (∀ w6 σ5, RCx PRG n 232 [.ref 97, .int (σ3.1 97 48)] σ3 (some (.int w6)) σ5 → (∀ w8 σ7, RCx PRG n 215 [.ref 97, .int w6] σ5 (some (.int w8)) σ7 → (((w4 &&& w8) = 0 → Q (some (.int w4)) σ7) ∧ (¬ (w4 &&& w8) = 0 → Q (some (.int (w4 &&& w8))) σ7)))))) ∧ (¬ 0 ≤ w2 → Q (some (.int (0 : Int32))) σ1)))) : Pl PRG (n + 1) d 233 0 [(0, .ref 97)] [] σ Q := by
  have hM : PRG[233]? = some M_233 := rfl
  refine Pl.sg1 (pc' := 1) (ls' := [(0, .ref 97)]) (st' := [.ref 97]) (σ' := σ) hM 0 rfl ?_
  refine Pl.weak (Pl.cI hM rfl rfl (by decide) (Mj := M_230) rfl rfl (fun w2 σ1 hw => ?_))
  replace h := h w2 σ1 hw
  refine Pl.br (c := 0 ≤ w2) (a := 11) (b := 9) (ls' := [(1, .int w2), (0, .ref 97)]) (st' := []) (σ' := σ1) hM 3 rfl (fun c => ?_) (fun c => ?_)
  · replace h := h.1 c
    refine Pl.seg (pc' := 13) (ls' := [(1, .int w2), (0, .ref 97)]) (st' := [.int w2, .ref 97]) (σ' := σ1) hM 2 rfl ?_
    refine Pl.weak (Pl.cI hM rfl rfl (by decide) (Mj := M_226) rfl rfl (fun w4 σ3 hw => ?_))
    replace h := h w4 σ3 hw
    refine Pl.seg (pc' := 24) (ls' := [(2, .int w4), (1, .int w2), (0, .ref 97)]) (st' := [.int (σ3.1 97 48), .ref 97, .ref 97, .int w4]) (σ' := σ3) hM 6 rfl ?_
    refine Pl.weak (Pl.cI hM rfl rfl (by decide) (Mj := M_232) rfl rfl (fun w6 σ5 hw => ?_))
    replace h := h w6 σ5 hw
    refine Pl.weak (Pl.cI hM rfl rfl (by decide) (Mj := M_215) rfl rfl (fun w8 σ7 hw => ?_))
    replace h := h w8 σ7 hw
    refine Pl.br (c := (w4 &&& w8) = 0) (a := 40) (b := 36) (ls' := [(3, .int (w4 &&& w8)), (2, .int w4), (1, .int w2), (0, .ref 97)]) (st' := []) (σ' := σ7) hM 4 rfl (fun c => ?_) (fun c => ?_)
    · replace h := h.1 c
      refine Pl.seg (pc' := 41) (ls' := [(3, .int (w4 &&& w8)), (2, .int w4), (1, .int w2), (0, .ref 97)]) (st' := [.int w4]) (σ' := σ7) hM 1 rfl ?_
      refine Pl.weak (Pl.ret hM rfl rfl h)
    · replace h := h.2 c
      refine Pl.seg (pc' := 41) (ls' := [(3, .int (w4 &&& w8)), (2, .int w4), (1, .int w2), (0, .ref 97)]) (st' := [.int (w4 &&& w8)]) (σ' := σ7) hM 2 rfl ?_
      refine Pl.weak (Pl.ret hM rfl rfl h)
  · replace h := h.2 c
    refine Pl.seg (pc' := 10) (ls' := [(1, .int w2), (0, .ref 97)]) (st' := [.int (0 : Int32)]) (σ' := σ1) hM 1 rfl ?_
    refine Pl.weak (Pl.ret hM rfl rfl h)
set_option maxRecDepth 100000 in
theorem p_234_0 {n d : Nat} {Q : Option Value → Sg → Prop} (σ : Sg) (h : (∀ w2 σ1, RCx PRG n 233 [.ref 97] σ (some (.int w2)) σ1 → Q (some (.int w2)) σ1)) : Pl PRG (n + 1) d 234 0 [(0, .ref 97)] [] σ Q := by
  have hM : PRG[234]? = some M_234 := rfl
  refine Pl.sg1 (pc' := 1) (ls' := [(0, .ref 97)]) (st' := [.ref 97]) (σ' := σ) hM 0 rfl ?_
  refine Pl.weak (Pl.cI hM rfl rfl (by decide) (Mj := M_233) rfl rfl (fun w2 σ1 hw => ?_))
  replace h := h w2 σ1 hw
  refine Pl.weak (Pl.ret hM rfl rfl h)
set_option maxRecDepth 100000 in
theorem p_235_0 {n d : Nat} {Q : Option Value → Sg → Prop} (σ : Sg) (x1 x2 : Int32) (h : (inR (σ.1 97 48) 16 = true → (inR (σ.1 97 48) 16 = true → Q (some (.int ((σ.1 97 48) + (1 : Int32)))) (s1 (s1 (s1 σ 126 (σ.1 97 48).toNatClampNeg x2) 127 (σ.1 97 48).toNatClampNeg x1) 97 48 ((σ.1 97 48) + (1 : Int32)))))) : Pl PRG (n + 1) d 235 0 [(0, .ref 97), (1, .int x1), (2, .int x2)] [] σ Q := by
  have hM : PRG[235]? = some M_235 := rfl
  refine Pl.sg1 (pc' := 9) (ls' := [(0, .ref 97), (1, .int x1), (2, .int x2)]) (st' := [.int x2, .int (σ.1 97 48), .ref 126]) (σ' := σ) hM 4 rfl ?_
  refine Pl.weak (Pl.iast hM rfl rfl (fun hi => ?_))
  replace h := h hi
  refine Pl.seg (pc' := 19) (ls' := [(0, .ref 97), (1, .int x1), (2, .int x2)]) (st' := [.int x1, .int (σ.1 97 48), .ref 127]) (σ' := (s1 σ 126 (σ.1 97 48).toNatClampNeg x2)) hM 5 rfl ?_
  refine Pl.weak (Pl.iast hM rfl rfl (fun hi => ?_))
  replace h := h hi
  refine Pl.seg (pc' := 34) (ls' := [(0, .ref 97), (1, .int x1), (2, .int x2)]) (st' := [.int ((σ.1 97 48) + (1 : Int32))]) (σ' := (s1 (s1 (s1 σ 126 (σ.1 97 48).toNatClampNeg x2) 127 (σ.1 97 48).toNatClampNeg x1) 97 48 ((σ.1 97 48) + (1 : Int32)))) hM 8 rfl ?_
  refine Pl.weak (Pl.ret hM rfl rfl h)
def LV_236 : List (Nat × List Nat) := [(0, [0, 1]), (1, [0, 1]), (4, [0, 1]), (5, [0, 1, 2]), (6, [0, 1, 2]), (9, [0, 1, 2]), (10, [0, 1, 2]), (11, [0, 1, 2]), (14, [0, 1, 2]), (17, [0, 1, 2]), (18, [1, 2]), (19, [1]), (22, [1]), (23, []), (24, []), (25, []), (26, []), (27, []), (30, []), (31, []), (34, []), (35, [])]
set_option maxRecDepth 100000 in
theorem lv_236 : chkLv M_236 LV_236 = true := by decide +kernel
set_option maxRecDepth 100000 in
theorem lva_236_34 : lvA LV_236 34 = [] := by decide +kernel
set_option maxRecDepth 100000 in
theorem p_236_0 {n d : Nat} {Q : Option Value → Sg → Prop} (σ : Sg) (x1 : Int32) (h : (∀ w2 σ1, RCx PRG n 230 [.ref 97] σ (some (.int w2)) σ1 → ((w2 < 0 → Pl PRG n d 236 34 [] [] σ1 Q) ∧ (¬ w2 < 0 → (∀ w4 σ3, RCx PRG n 217 [.ref 97, .int x1] σ1 (some (.int w4)) σ3 → (w4 = 0 ∨ w4 = 1) → ((w4 = 0 → Pl PRG n d 236 34 [] [] σ3 Q) ∧ (¬ w4 = 0 → (∀ w6 σ5, RCx PRG n 226 [.ref 97, .int w2] σ3 (some (.int w6)) σ5 → ((((w6 >>> (x1 &&& 31)) &&& (1 : Int32)) = (1 : Int32) → Q (some (.int (1 : Int32))) σ5) ∧ (¬ ((w6 >>> (x1 &&& 31)) &&& (1 : Int32)) = (1 : Int32) → Pl PRG n d 236 34 [] [] σ5 Q)))))))))) : Pl PRG (n + 1) d 236 0 [(0, .ref 97), (1, .int x1)] [] σ Q := by
  have hM : PRG[236]? = some M_236 := rfl
  refine Pl.sg1 (pc' := 1) (ls' := [(0, .ref 97), (1, .int x1)]) (st' := [.ref 97]) (σ' := σ) hM 0 rfl ?_
  refine Pl.weak (Pl.cI hM rfl rfl (by decide) (Mj := M_230) rfl rfl (fun w2 σ1 hw => ?_))
  replace h := h w2 σ1 hw
  refine Pl.br (c := w2 < 0) (a := 34) (b := 9) (ls' := [(2, .int w2), (0, .ref 97), (1, .int x1)]) (st' := []) (σ' := σ1) hM 3 rfl (fun c => ?_) (fun c => ?_)
  · replace h := h.1 c
    exact Pl.live (l' := []) hM lv_236 ⟨show ndL _ from (by decide : List.Nodup ([2, 0, 1] : List Nat)), show ndL _ from (by decide : List.Nodup ([] : List Nat)), by rw [lva_236_34]; exact fun _ h => absurd h List.not_mem_nil⟩ h
  · replace h := h.2 c
    refine Pl.seg (pc' := 11) (ls' := [(2, .int w2), (0, .ref 97), (1, .int x1)]) (st' := [.int x1, .ref 97]) (σ' := σ1) hM 2 rfl ?_
    refine Pl.weak (Pl.cZ hM rfl rfl (by decide) (Mj := M_217) rfl rfl (fun w4 σ3 hw hz => ?_))
    replace h := h w4 σ3 hw hz
    refine Pl.br (c := w4 = 0) (a := 34) (b := 17) (ls' := [(2, .int w2), (0, .ref 97), (1, .int x1)]) (st' := []) (σ' := σ3) hM 1 rfl (fun c => ?_) (fun c => ?_)
    · replace h := h.1 c
      exact Pl.live (l' := []) hM lv_236 ⟨show ndL _ from (by decide : List.Nodup ([2, 0, 1] : List Nat)), show ndL _ from (by decide : List.Nodup ([] : List Nat)), by rw [lva_236_34]; exact fun _ h => absurd h List.not_mem_nil⟩ h
    · replace h := h.2 c
      refine Pl.seg (pc' := 19) (ls' := [(2, .int w2), (0, .ref 97), (1, .int x1)]) (st' := [.int w2, .ref 97]) (σ' := σ3) hM 2 rfl ?_
      refine Pl.weak (Pl.cI hM rfl rfl (by decide) (Mj := M_226) rfl rfl (fun w6 σ5 hw => ?_))
      replace h := h w6 σ5 hw
      refine Pl.brN (c := ((w6 >>> (x1 &&& 31)) &&& (1 : Int32)) = (1 : Int32)) (a := 34) (b := 30) (ls' := [(2, .int w2), (0, .ref 97), (1, .int x1)]) (st' := []) (σ' := σ5) hM 6 rfl (fun c => ?_) (fun c => ?_)
      · replace h := h.2 c
        exact Pl.live (l' := []) hM lv_236 ⟨show ndL _ from (by decide : List.Nodup ([2, 0, 1] : List Nat)), show ndL _ from (by decide : List.Nodup ([] : List Nat)), by rw [lva_236_34]; exact fun _ h => absurd h List.not_mem_nil⟩ h
      · replace h := h.1 c
        refine Pl.seg (pc' := 35) (ls' := [(2, .int w2), (0, .ref 97), (1, .int x1)]) (st' := [.int (1 : Int32)]) (σ' := σ5) hM 2 rfl ?_
        refine Pl.weak (Pl.ret hM rfl rfl h)
set_option maxRecDepth 100000 in
theorem p_236_34 {n d : Nat} {Q : Option Value → Sg → Prop} (σ : Sg) (h : Q (some (.int (0 : Int32))) σ) : Pl PRG (n + 1) d 236 34 [] [] σ Q := by
  have hM : PRG[236]? = some M_236 := rfl
  refine Pl.sg1 (pc' := 35) (ls' := []) (st' := [.int (0 : Int32)]) (σ' := σ) hM 0 rfl ?_
  refine Pl.weak (Pl.ret hM rfl rfl h)
set_option maxRecDepth 100000 in
theorem p_237_0 {n d : Nat} {Q : Option Value → Sg → Prop} (σ : Sg) (x1 : Int32) (h : (∀ w2 σ1, RCx PRG n 236 [.ref 97, .int x1] σ (some (.int w2)) σ1 → (w2 = 0 ∨ w2 = 1) → ((w2 = 0 → Q (some (.int (-1 : Int32))) σ1) ∧ (¬ w2 = 0 → (∀ w4 σ3, RCx PRG n 233 [.ref 97] σ1 (some (.int w4)) σ3 → ((((w4 >>> (x1 &&& 31)) &&& (1 : Int32)) = 0 → Q (some (.int (-2 : Int32))) σ3) ∧ (¬ ((w4 >>> (x1 &&& 31)) &&& (1 : Int32)) = 0 → (∀ w6 σ5, RCx PRG n 230 [.ref 97] σ3 (some (.int w6)) σ5 → (∀ w8 σ7, RCx PRG n 235 [.ref 97, .int w6, .int x1] σ5 (some (.int w8)) σ7 → Q (some (.int w8)) σ7))))))))) : Pl PRG (n + 1) d 237 0 [(0, .ref 97), (1, .int x1)] [] σ Q := by
  have hM : PRG[237]? = some M_237 := rfl
  refine Pl.sg1 (pc' := 2) (ls' := [(0, .ref 97), (1, .int x1)]) (st' := [.int x1, .ref 97]) (σ' := σ) hM 1 rfl ?_
  refine Pl.weak (Pl.cZ hM rfl rfl (by decide) (Mj := M_236) rfl rfl (fun w2 σ1 hw hz => ?_))
  replace h := h w2 σ1 hw hz
  refine Pl.brN (c := w2 = 0) (a := 10) (b := 8) (ls' := [(0, .ref 97), (1, .int x1)]) (st' := []) (σ' := σ1) hM 1 rfl (fun c => ?_) (fun c => ?_)
  · replace h := h.2 c
    refine Pl.seg (pc' := 11) (ls' := [(0, .ref 97), (1, .int x1)]) (st' := [.ref 97]) (σ' := σ1) hM 1 rfl ?_
    refine Pl.weak (Pl.cI hM rfl rfl (by decide) (Mj := M_233) rfl rfl (fun w4 σ3 hw => ?_))
    replace h := h w4 σ3 hw
    refine Pl.brN (c := ((w4 >>> (x1 &&& 31)) &&& (1 : Int32)) = 0) (a := 26) (b := 21) (ls' := [(0, .ref 97), (1, .int x1)]) (st' := []) (σ' := σ3) hM 5 rfl (fun c => ?_) (fun c => ?_)
    · replace h := h.2 c
      refine Pl.seg (pc' := 28) (ls' := [(0, .ref 97), (1, .int x1)]) (st' := [.ref 97, .ref 97]) (σ' := σ3) hM 2 rfl ?_
      refine Pl.weak (Pl.cI hM rfl rfl (by decide) (Mj := M_230) rfl rfl (fun w6 σ5 hw => ?_))
      replace h := h w6 σ5 hw
      refine Pl.seg (pc' := 32) (ls' := [(0, .ref 97), (1, .int x1)]) (st' := [.int x1, .int w6, .ref 97]) (σ' := σ5) hM 1 rfl ?_
      refine Pl.weak (Pl.cI hM rfl rfl (by decide) (Mj := M_235) rfl rfl (fun w8 σ7 hw => ?_))
      replace h := h w8 σ7 hw
      refine Pl.weak (Pl.ret hM rfl rfl h)
    · replace h := h.1 c
      refine Pl.seg (pc' := 35) (ls' := [(0, .ref 97), (1, .int x1)]) (st' := [.int (-2 : Int32)]) (σ' := σ3) hM 2 rfl ?_
      refine Pl.weak (Pl.ret hM rfl rfl h)
  · replace h := h.1 c
    refine Pl.seg (pc' := 9) (ls' := [(0, .ref 97), (1, .int x1)]) (st' := [.int (-1 : Int32)]) (σ' := σ1) hM 1 rfl ?_
    refine Pl.weak (Pl.ret hM rfl rfl h)
set_option maxRecDepth 100000 in
theorem p_238_0 {n d : Nat} {Q : Option Value → Sg → Prop} (σ : Sg) (x1 : Int32) (h : (∀ w2 σ1, RCx PRG n 236 [.ref 97, .int x1] σ (some (.int w2)) σ1 → (w2 = 0 ∨ w2 = 1) → ((w2 = 0 → Q (some (.int (-1 : Int32))) σ1) ∧ (¬ w2 = 0 → (∀ w4 σ3, RCx PRG n 230 [.ref 97] σ1 (some (.int w4)) σ3 → (∀ w6 σ5, RCx PRG n 235 [.ref 97, .int w4, .int x1] σ3 (some (.int w6)) σ5 → Q (some (.int w6)) σ5)))))) : Pl PRG (n + 1) d 238 0 [(0, .ref 97), (1, .int x1)] [] σ Q := by
  have hM : PRG[238]? = some M_238 := rfl
  refine Pl.sg1 (pc' := 2) (ls' := [(0, .ref 97), (1, .int x1)]) (st' := [.int x1, .ref 97]) (σ' := σ) hM 1 rfl ?_
  refine Pl.weak (Pl.cZ hM rfl rfl (by decide) (Mj := M_236) rfl rfl (fun w2 σ1 hw hz => ?_))
  replace h := h w2 σ1 hw hz
  refine Pl.br (c := w2 = 0) (a := 20) (b := 8) (ls' := [(0, .ref 97), (1, .int x1)]) (st' := []) (σ' := σ1) hM 1 rfl (fun c => ?_) (fun c => ?_)
  · replace h := h.1 c
    refine Pl.seg (pc' := 21) (ls' := [(0, .ref 97), (1, .int x1)]) (st' := [.int (-1 : Int32)]) (σ' := σ1) hM 1 rfl ?_
    refine Pl.weak (Pl.ret hM rfl rfl h)
  · replace h := h.2 c
    refine Pl.seg (pc' := 10) (ls' := [(0, .ref 97), (1, .int x1)]) (st' := [.ref 97, .ref 97]) (σ' := σ1) hM 2 rfl ?_
    refine Pl.weak (Pl.cI hM rfl rfl (by decide) (Mj := M_230) rfl rfl (fun w4 σ3 hw => ?_))
    replace h := h w4 σ3 hw
    refine Pl.seg (pc' := 14) (ls' := [(0, .ref 97), (1, .int x1)]) (st' := [.int x1, .int w4, .ref 97]) (σ' := σ3) hM 1 rfl ?_
    refine Pl.weak (Pl.cI hM rfl rfl (by decide) (Mj := M_235) rfl rfl (fun w6 σ5 hw => ?_))
    replace h := h w6 σ5 hw
    refine Pl.seg (pc' := 21) (ls' := [(0, .ref 97), (1, .int x1)]) (st' := [.int w6]) (σ' := σ5) hM 1 rfl ?_
    refine Pl.weak (Pl.ret hM rfl rfl h)
set_option maxRecDepth 100000 in
theorem p_239_0 {n d : Nat} {Q : Option Value → Sg → Prop} (σ : Sg) (h : (((σ.1 97 48) = 0 → Q (some (.int (-1 : Int32))) σ) ∧ (¬ (σ.1 97 48) = 0 → Q (some (.int ((σ.1 97 48) - (1 : Int32)))) (s1 σ 97 48 ((σ.1 97 48) - (1 : Int32)))))) : Pl PRG (n + 1) d 239 0 [(0, .ref 97)] [] σ Q := by
  have hM : PRG[239]? = some M_239 := rfl
  refine Pl.brN1 (c := (σ.1 97 48) = 0) (a := 9) (b := 7) (ls' := [(0, .ref 97)]) (st' := []) (σ' := σ) hM 2 rfl (fun c => ?_) (fun c => ?_)
  · replace h := h.2 c
    refine Pl.seg (pc' := 23) (ls' := [(0, .ref 97)]) (st' := [.int ((σ.1 97 48) - (1 : Int32))]) (σ' := (s1 σ 97 48 ((σ.1 97 48) - (1 : Int32)))) hM 8 rfl ?_
    refine Pl.weak (Pl.ret hM rfl rfl h)
  · replace h := h.1 c
    refine Pl.seg (pc' := 8) (ls' := [(0, .ref 97)]) (st' := [.int (-1 : Int32)]) (σ' := σ) hM 1 rfl ?_
    refine Pl.weak (Pl.ret hM rfl rfl h)
set_option maxRecDepth 100000 in
theorem p_240_0 {n d : Nat} {Q : Option Value → Sg → Prop} (σ : Sg) (x1 : Int32) (h : (∀ w2 σ1, RCx PRG n 232 [.ref 97, .int x1] σ (some (.int w2)) σ1 → ((w2 = (-1 : Int32) → Q (some (.int (0 : Int32))) σ1) ∧ (¬ w2 = (-1 : Int32) → (inR x1 16 = true → (∀ w4 σ3, RCx PRG n 212 [.ref 97, .int (σ1.1 126 x1.toNatClampNeg)] σ1 (some (.int w4)) σ3 → ((w4 = w2 → Q (some (.int (1 : Int32))) σ3) ∧ (¬ w4 = w2 → Q (some (.int (2 : Int32))) σ3)))))))) : Pl PRG (n + 1) d 240 0 [(0, .ref 97), (1, .int x1)] [] σ Q := by
  have hM : PRG[240]? = some M_240 := rfl
  refine Pl.sg1 (pc' := 2) (ls' := [(0, .ref 97), (1, .int x1)]) (st' := [.int x1, .ref 97]) (σ' := σ) hM 1 rfl ?_
  refine Pl.weak (Pl.cI hM rfl rfl (by decide) (Mj := M_232) rfl rfl (fun w2 σ1 hw => ?_))
  replace h := h w2 σ1 hw
  refine Pl.brN (c := w2 = (-1 : Int32)) (a := 15) (b := 11) (ls' := [(2, .int w2), (0, .ref 97), (1, .int x1)]) (st' := []) (σ' := σ1) hM 4 rfl (fun c => ?_) (fun c => ?_)
  · replace h := h.2 c
    refine Pl.seg (pc' := 21) (ls' := [(2, .int w2), (0, .ref 97), (1, .int x1)]) (st' := [.int x1, .ref 126, .ref 97]) (σ' := σ1) hM 4 rfl ?_
    refine Pl.weak (Pl.iald hM rfl rfl (fun hi => ?_))
    replace h := h hi
    refine Pl.weak (Pl.cI hM rfl rfl (by decide) (Mj := M_212) rfl rfl (fun w4 σ3 hw => ?_))
    replace h := h w4 σ3 hw
    refine Pl.brN (c := w4 = w2) (a := 33) (b := 29) (ls' := [(2, .int w2), (0, .ref 97), (1, .int x1)]) (st' := []) (σ' := σ3) hM 2 rfl (fun c => ?_) (fun c => ?_)
    · replace h := h.2 c
      refine Pl.seg (pc' := 34) (ls' := [(2, .int w2), (0, .ref 97), (1, .int x1)]) (st' := [.int (2 : Int32)]) (σ' := σ3) hM 1 rfl ?_
      refine Pl.weak (Pl.ret hM rfl rfl h)
    · replace h := h.1 c
      refine Pl.seg (pc' := 34) (ls' := [(2, .int w2), (0, .ref 97), (1, .int x1)]) (st' := [.int (1 : Int32)]) (σ' := σ3) hM 2 rfl ?_
      refine Pl.weak (Pl.ret hM rfl rfl h)
  · replace h := h.1 c
    refine Pl.seg (pc' := 34) (ls' := [(2, .int w2), (0, .ref 97), (1, .int x1)]) (st' := [.int (0 : Int32)]) (σ' := σ1) hM 2 rfl ?_
    refine Pl.weak (Pl.ret hM rfl rfl h)
def LV_241 : List (Nat × List Nat) := [(0, [0, 1]), (1, [0, 1]), (2, [0, 1, 2]), (3, [0, 1, 2]), (4, [0, 1, 2, 3]), (5, [0, 1, 2, 3]), (6, [0, 1, 2, 3]), (9, [0, 1, 2, 3]), (10, [0, 1, 2, 3]), (13, [0, 1, 2, 3]), (14, [0, 1, 2, 3]), (15, [0, 1, 2, 3]), (16, [0, 1, 2, 3]), (19, [0, 1, 2, 3]), (20, [0, 1, 2, 3]), (21, [0, 1, 2, 3]), (24, [0, 1, 2, 3]), (25, [0, 1, 2, 3]), (26, [0, 1, 2, 3]), (29, [0, 1, 2, 3]), (30, [0, 1, 2, 3]), (31, [0, 1, 2, 3]), (34, [0, 1, 2, 3]), (35, [0, 1, 2, 3]), (36, [0, 1, 2, 3]), (39, [0, 1, 2, 3]), (40, [0, 1, 2, 3]), (41, [0, 1, 2, 3]), (44, [0, 1, 2, 3]), (47, [0, 1, 3]), (48, [0, 1, 3]), (49, [0, 1, 3]), (52, [0, 1, 3]), (53, [0, 1, 3]), (54, [0, 1, 3]), (57, [0, 1, 3]), (58, [0, 1, 2, 3]), (61, [0, 1, 2, 3]), (64, [2]), (65, [])]
set_option maxRecDepth 100000 in
theorem lv_241 : chkLv M_241 LV_241 = true := by decide +kernel
set_option maxRecDepth 100000 in
theorem lva_241_4 : lvA LV_241 4 = [0, 1, 2, 3] := by decide +kernel
set_option maxRecDepth 100000 in
theorem lva_241_58 : lvA LV_241 58 = [0, 1, 2, 3] := by decide +kernel
set_option maxRecDepth 100000 in
theorem p_241_0 {n d : Nat} {Q : Option Value → Sg → Prop} (σ : Sg) (x1 : Int32) (h : Pl PRG n d 241 4 [(0, .ref 97), (1, .int x1), (2, .int (-1 : Int32)), (3, .int (0 : Int32))] [] σ Q) : Pl PRG (n + 1) d 241 0 [(0, .ref 97), (1, .int x1)] [] σ Q := by
  have hM : PRG[241]? = some M_241 := rfl
  refine Pl.sg1 (pc' := 4) (ls' := [(3, .int (0 : Int32)), (2, .int (-1 : Int32)), (0, .ref 97), (1, .int x1)]) (st' := []) (σ' := σ) hM 3 rfl ?_
  exact Pl.live (l' := [(0, .ref 97), (1, .int x1), (2, .int (-1 : Int32)), (3, .int (0 : Int32))]) hM lv_241 ⟨show ndL _ from (by decide : List.Nodup ([3, 2, 0, 1] : List Nat)), show ndL _ from (by decide : List.Nodup ([0, 1, 2, 3] : List Nat)), by rw [lva_241_4]; exact List.forall_mem_cons.mpr ⟨rfl, List.forall_mem_cons.mpr ⟨rfl, List.forall_mem_cons.mpr ⟨rfl, List.forall_mem_cons.mpr ⟨rfl, fun _ h => absurd h List.not_mem_nil⟩⟩⟩⟩⟩ h
set_option maxRecDepth 100000 in
theorem p_241_4 {n d : Nat} {Q : Option Value → Sg → Prop} (σ : Sg) (x1 x2 x3 : Int32) (h : ((x1 ≤ x3 → Q (some (.int x2)) σ) ∧ (¬ x1 ≤ x3 → (inR x3 16 = true → (inR x1 16 = true → (((σ.1 127 x3.toNatClampNeg) = (σ.1 127 x1.toNatClampNeg) → (inR x3 16 = true → (∀ w2 σ1, RCx PRG n 212 [.ref 97, .int (σ.1 126 x3.toNatClampNeg)] σ (some (.int w2)) σ1 → (inR x1 16 = true → (∀ w4 σ3, RCx PRG n 212 [.ref 97, .int (σ1.1 126 x1.toNatClampNeg)] σ1 (some (.int w4)) σ3 → ((w2 = w4 → (inR x3 16 = true → (∀ w6 σ5, RCx PRG n 213 [.ref 97, .int (σ3.1 126 x3.toNatClampNeg)] σ3 (some (.int w6)) σ5 → Pl PRG n d 241 58 [(0, .ref 97), (1, .int x1), (2, .int w6), (3, .int x3)] [] σ5 Q))) ∧ (¬ w2 = w4 → Pl PRG n d 241 58 [(0, .ref 97), (1, .int x1), (2, .int x2), (3, .int x3)] [] σ3 Q))))))) ∧ (¬ (σ.1 127 x3.toNatClampNeg) = (σ.1 127 x1.toNatClampNeg) → Pl PRG n d 241 58 [(0, .ref 97), (1, .int x1), (2, .int x2), (3, .int x3)] [] σ Q))))))) : Pl PRG (n + 1) d 241 4 [(0, .ref 97), (1, .int x1), (2, .int x2), (3, .int x3)] [] σ Q := by
  have hM : PRG[241]? = some M_241 := rfl
  refine Pl.br1 (c := x1 ≤ x3) (a := 64) (b := 9) (ls' := [(0, .ref 97), (1, .int x1), (2, .int x2), (3, .int x3)]) (st' := []) (σ' := σ) hM 2 rfl (fun c => ?_) (fun c => ?_)
  · replace h := h.1 c
    refine Pl.seg (pc' := 65) (ls' := [(0, .ref 97), (1, .int x1), (2, .int x2), (3, .int x3)]) (st' := [.int x2]) (σ' := σ) hM 1 rfl ?_
    refine Pl.weak (Pl.ret hM rfl rfl h)
  · replace h := h.2 c
    refine Pl.seg (pc' := 14) (ls' := [(0, .ref 97), (1, .int x1), (2, .int x2), (3, .int x3)]) (st' := [.int x3, .ref 127]) (σ' := σ) hM 3 rfl ?_
    refine Pl.weak (Pl.iald hM rfl rfl (fun hi => ?_))
    replace h := h hi
    refine Pl.seg (pc' := 20) (ls' := [(0, .ref 97), (1, .int x1), (2, .int x2), (3, .int x3)]) (st' := [.int x1, .ref 127, .int (σ.1 127 x3.toNatClampNeg)]) (σ' := σ) hM 3 rfl ?_
    refine Pl.weak (Pl.iald hM rfl rfl (fun hi => ?_))
    replace h := h hi
    refine Pl.brN (c := (σ.1 127 x3.toNatClampNeg) = (σ.1 127 x1.toNatClampNeg)) (a := 58) (b := 24) (ls' := [(0, .ref 97), (1, .int x1), (2, .int x2), (3, .int x3)]) (st' := []) (σ' := σ) hM 1 rfl (fun c => ?_) (fun c => ?_)
    · replace h := h.2 c
      exact Pl.live (l' := [(0, .ref 97), (1, .int x1), (2, .int x2), (3, .int x3)]) hM lv_241 ⟨show ndL _ from (by decide : List.Nodup ([0, 1, 2, 3] : List Nat)), show ndL _ from (by decide : List.Nodup ([0, 1, 2, 3] : List Nat)), by rw [lva_241_58]; exact List.forall_mem_cons.mpr ⟨rfl, List.forall_mem_cons.mpr ⟨rfl, List.forall_mem_cons.mpr ⟨rfl, List.forall_mem_cons.mpr ⟨rfl, fun _ h => absurd h List.not_mem_nil⟩⟩⟩⟩⟩ h
    · replace h := h.1 c
      refine Pl.seg (pc' := 30) (ls' := [(0, .ref 97), (1, .int x1), (2, .int x2), (3, .int x3)]) (st' := [.int x3, .ref 126, .ref 97]) (σ' := σ) hM 4 rfl ?_
      refine Pl.weak (Pl.iald hM rfl rfl (fun hi => ?_))
      replace h := h hi
      refine Pl.weak (Pl.cI hM rfl rfl (by decide) (Mj := M_212) rfl rfl (fun w2 σ1 hw => ?_))
      replace h := h w2 σ1 hw
      refine Pl.seg (pc' := 40) (ls' := [(0, .ref 97), (1, .int x1), (2, .int x2), (3, .int x3)]) (st' := [.int x1, .ref 126, .ref 97, .int w2]) (σ' := σ1) hM 4 rfl ?_
      refine Pl.weak (Pl.iald hM rfl rfl (fun hi => ?_))
      replace h := h hi
      refine Pl.weak (Pl.cI hM rfl rfl (by decide) (Mj := M_212) rfl rfl (fun w4 σ3 hw => ?_))
      replace h := h w4 σ3 hw
      refine Pl.brN (c := w2 = w4) (a := 58) (b := 47) (ls' := [(0, .ref 97), (1, .int x1), (2, .int x2), (3, .int x3)]) (st' := []) (σ' := σ3) hM 1 rfl (fun c => ?_) (fun c => ?_)
      · replace h := h.2 c
        exact Pl.live (l' := [(0, .ref 97), (1, .int x1), (2, .int x2), (3, .int x3)]) hM lv_241 ⟨show ndL _ from (by decide : List.Nodup ([0, 1, 2, 3] : List Nat)), show ndL _ from (by decide : List.Nodup ([0, 1, 2, 3] : List Nat)), by rw [lva_241_58]; exact List.forall_mem_cons.mpr ⟨rfl, List.forall_mem_cons.mpr ⟨rfl, List.forall_mem_cons.mpr ⟨rfl, List.forall_mem_cons.mpr ⟨rfl, fun _ h => absurd h List.not_mem_nil⟩⟩⟩⟩⟩ h
      · replace h := h.1 c
        refine Pl.seg (pc' := 53) (ls' := [(0, .ref 97), (1, .int x1), (2, .int x2), (3, .int x3)]) (st' := [.int x3, .ref 126, .ref 97]) (σ' := σ3) hM 4 rfl ?_
        refine Pl.weak (Pl.iald hM rfl rfl (fun hi => ?_))
        replace h := h hi
        refine Pl.weak (Pl.cI hM rfl rfl (by decide) (Mj := M_213) rfl rfl (fun w6 σ5 hw => ?_))
        replace h := h w6 σ5 hw
        refine Pl.seg (pc' := 58) (ls' := [(2, .int w6), (0, .ref 97), (1, .int x1), (3, .int x3)]) (st' := []) (σ' := σ5) hM 1 rfl ?_
        exact Pl.live (l' := [(0, .ref 97), (1, .int x1), (2, .int w6), (3, .int x3)]) hM lv_241 ⟨show ndL _ from (by decide : List.Nodup ([2, 0, 1, 3] : List Nat)), show ndL _ from (by decide : List.Nodup ([0, 1, 2, 3] : List Nat)), by rw [lva_241_58]; exact List.forall_mem_cons.mpr ⟨rfl, List.forall_mem_cons.mpr ⟨rfl, List.forall_mem_cons.mpr ⟨rfl, List.forall_mem_cons.mpr ⟨rfl, fun _ h => absurd h List.not_mem_nil⟩⟩⟩⟩⟩ h
set_option maxRecDepth 100000 in
theorem p_241_58 {n d : Nat} {Q : Option Value → Sg → Prop} (σ : Sg) (x1 x2 x3 : Int32) (h : Pl PRG n d 241 4 [(0, .ref 97), (1, .int x1), (2, .int x2), (3, .int (x3 + (1 : Int32)))] [] σ Q) : Pl PRG (n + 1) d 241 58 [(0, .ref 97), (1, .int x1), (2, .int x2), (3, .int x3)] [] σ Q := by
  have hM : PRG[241]? = some M_241 := rfl
  refine Pl.sg1 (pc' := 4) (ls' := [(3, .int (x3 + (1 : Int32))), (0, .ref 97), (1, .int x1), (2, .int x2)]) (st' := []) (σ' := σ) hM 1 rfl ?_
  exact Pl.live (l' := [(0, .ref 97), (1, .int x1), (2, .int x2), (3, .int (x3 + (1 : Int32)))]) hM lv_241 ⟨show ndL _ from (by decide : List.Nodup ([3, 0, 1, 2] : List Nat)), show ndL _ from (by decide : List.Nodup ([0, 1, 2, 3] : List Nat)), by rw [lva_241_4]; exact List.forall_mem_cons.mpr ⟨rfl, List.forall_mem_cons.mpr ⟨rfl, List.forall_mem_cons.mpr ⟨rfl, List.forall_mem_cons.mpr ⟨rfl, fun _ h => absurd h List.not_mem_nil⟩⟩⟩⟩⟩ h
def LV_242 : List (Nat × List Nat) := [(0, [0, 1]), (1, [0, 1]), (4, [0, 1]), (5, [0, 1]), (6, [0, 1]), (7, [0, 1, 2]), (8, [0, 1, 2]), (9, [0, 1, 2]), (12, [0, 1, 2]), (13, [0, 1, 2]), (16, [0, 1, 2]), (17, [0, 1, 2]), (20, [0, 1, 2]), (21, [0, 1, 2]), (22, [0, 1, 2]), (23, [0, 1, 2]), (24, [0, 1]), (25, [0, 1]), (28, [0, 1]), (29, [0, 1]), (30, [0, 1]), (31, [0, 1]), (32, [0, 1]), (33, [1]), (34, []), (37, []), (40, []), (41, []), (44, []), (45, []), (48, []), (49, [])]
set_option maxRecDepth 100000 in
theorem lv_242 : chkLv M_242 LV_242 = true := by decide +kernel
set_option maxRecDepth 100000 in
theorem lva_242_48 : lvA LV_242 48 = [] := by decide +kernel
set_option maxRecDepth 100000 in
theorem p_242_0 {n d : Nat} {Q : Option Value → Sg → Prop} (σ : Sg) (x1 : Int32) (h : (inR x1 16 = true → (∀ w2 σ1, RCx PRG n 240 [.ref 97, .int x1] σ (some (.int w2)) σ1 → ((w2 = (2 : Int32) → (inR (σ.1 127 x1.toNatClampNeg) 4 = true → (∀ w4 σ3, RCx PRG n 225 [.ref 97, .int (σ.1 127 x1.toNatClampNeg), .int x1] σ1 (some (.int w4)) σ3 → (∀ w6 σ5, RCx PRG n 232 [.ref 97, .int x1] σ3 (some (.int w6)) σ5 → (∀ w8 σ7, RCx PRG n 215 [.ref 97, .int w6] σ5 (some (.int w8)) σ7 → (((((σ1.1 125 (σ.1 127 x1.toNatClampNeg).toNatClampNeg) &&& (w4 ^^^ (-1 : Int32))) &&& w8) = 0 → Pl PRG n d 242 48 [] [] σ7 Q) ∧ (¬ (((σ1.1 125 (σ.1 127 x1.toNatClampNeg).toNatClampNeg) &&& (w4 ^^^ (-1 : Int32))) &&& w8) = 0 → Q (some (.int (1 : Int32))) σ7))))))) ∧ (¬ w2 = (2 : Int32) → Pl PRG n d 242 48 [] [] σ1 Q))))) : Pl PRG (n + 1) d 242 0 [(0, .ref 97), (1, .int x1)] [] σ Q := by
  have hM : PRG[242]? = some M_242 := rfl
  refine Pl.sg1 (pc' := 5) (ls' := [(0, .ref 97), (1, .int x1)]) (st' := [.int x1, .ref 127]) (σ' := σ) hM 2 rfl ?_
  refine Pl.weak (Pl.iald hM rfl rfl (fun hi => ?_))
  replace h := h hi
  refine Pl.seg (pc' := 9) (ls' := [(2, .int (σ.1 127 x1.toNatClampNeg)), (0, .ref 97), (1, .int x1)]) (st' := [.int x1, .ref 97]) (σ' := σ) hM 3 rfl ?_
  refine Pl.weak (Pl.cI hM rfl rfl (by decide) (Mj := M_240) rfl rfl (fun w2 σ1 hw => ?_))
  replace h := h w2 σ1 hw
  refine Pl.brN (c := w2 = (2 : Int32)) (a := 48) (b := 16) (ls' := [(2, .int (σ.1 127 x1.toNatClampNeg)), (0, .ref 97), (1, .int x1)]) (st' := []) (σ' := σ1) hM 2 rfl (fun c => ?_) (fun c => ?_)
  · replace h := h.2 c
    exact Pl.live (l' := []) hM lv_242 ⟨show ndL _ from (by decide : List.Nodup ([2, 0, 1] : List Nat)), show ndL _ from (by decide : List.Nodup ([] : List Nat)), by rw [lva_242_48]; exact fun _ h => absurd h List.not_mem_nil⟩ h
  · replace h := h.1 c
    refine Pl.seg (pc' := 21) (ls' := [(2, .int (σ.1 127 x1.toNatClampNeg)), (0, .ref 97), (1, .int x1)]) (st' := [.int (σ.1 127 x1.toNatClampNeg), .ref 125]) (σ' := σ1) hM 3 rfl ?_
    refine Pl.weak (Pl.iald hM rfl rfl (fun hi => ?_))
    replace h := h hi
    refine Pl.seg (pc' := 25) (ls' := [(2, .int (σ.1 127 x1.toNatClampNeg)), (0, .ref 97), (1, .int x1)]) (st' := [.int x1, .int (σ.1 127 x1.toNatClampNeg), .ref 97, .int (σ1.1 125 (σ.1 127 x1.toNatClampNeg).toNatClampNeg)]) (σ' := σ1) hM 3 rfl ?_
    refine Pl.weak (Pl.cI hM rfl rfl (by decide) (Mj := M_225) rfl rfl (fun w4 σ3 hw => ?_))
    replace h := h w4 σ3 hw
    refine Pl.seg (pc' := 34) (ls' := [(2, .int (σ.1 127 x1.toNatClampNeg)), (0, .ref 97), (1, .int x1)]) (st' := [.int x1, .ref 97, .ref 97, .int ((σ1.1 125 (σ.1 127 x1.toNatClampNeg).toNatClampNeg) &&& (w4 ^^^ (-1 : Int32)))]) (σ' := σ3) hM 6 rfl ?_
    refine Pl.weak (Pl.cI hM rfl rfl (by decide) (Mj := M_232) rfl rfl (fun w6 σ5 hw => ?_))
    replace h := h w6 σ5 hw
    refine Pl.weak (Pl.cI hM rfl rfl (by decide) (Mj := M_215) rfl rfl (fun w8 σ7 hw => ?_))
    replace h := h w8 σ7 hw
    refine Pl.br (c := (((σ1.1 125 (σ.1 127 x1.toNatClampNeg).toNatClampNeg) &&& (w4 ^^^ (-1 : Int32))) &&& w8) = 0) (a := 48) (b := 44) (ls' := [(2, .int (σ.1 127 x1.toNatClampNeg)), (0, .ref 97), (1, .int x1)]) (st' := []) (σ' := σ7) hM 2 rfl (fun c => ?_) (fun c => ?_)
    · replace h := h.1 c
      exact Pl.live (l' := []) hM lv_242 ⟨show ndL _ from (by decide : List.Nodup ([2, 0, 1] : List Nat)), show ndL _ from (by decide : List.Nodup ([] : List Nat)), by rw [lva_242_48]; exact fun _ h => absurd h List.not_mem_nil⟩ h
    · replace h := h.2 c
      refine Pl.seg (pc' := 49) (ls' := [(2, .int (σ.1 127 x1.toNatClampNeg)), (0, .ref 97), (1, .int x1)]) (st' := [.int (1 : Int32)]) (σ' := σ7) hM 2 rfl ?_
      refine Pl.weak (Pl.ret hM rfl rfl h)
set_option maxRecDepth 100000 in
theorem p_242_48 {n d : Nat} {Q : Option Value → Sg → Prop} (σ : Sg) (h : Q (some (.int (0 : Int32))) σ) : Pl PRG (n + 1) d 242 48 [] [] σ Q := by
  have hM : PRG[242]? = some M_242 := rfl
  refine Pl.sg1 (pc' := 49) (ls' := []) (st' := [.int (0 : Int32)]) (σ' := σ) hM 0 rfl ?_
  refine Pl.weak (Pl.ret hM rfl rfl h)
def LV_243 : List (Nat × List Nat) := [(0, [0, 1]), (1, [0, 1]), (2, [0, 1]), (5, [0, 1]), (8, []), (10, []), (11, [0, 1]), (12, [0, 1]), (13, [0, 1]), (14, [0, 1]), (15, [0, 1, 2]), (16, [0, 1, 2]), (17, [0, 1, 2]), (20, [0, 1, 2]), (23, [0, 1, 2]), (24, [0, 1, 2]), (27, [0, 1, 2]), (28, [0, 1, 2]), (29, [0, 1, 2]), (30, [0, 1, 2]), (33, [0, 1, 2]), (34, [0, 1, 2]), (35, [0, 1, 2]), (38, [0, 1, 2]), (39, [0, 1, 2]), (40, [0, 1, 2]), (43, [0, 1, 2]), (44, [0, 1, 2]), (45, [0, 1, 2]), (48, [0, 1, 2]), (49, [0, 1, 2]), (50, [0, 1, 2]), (53, [0, 1, 2]), (56, [2]), (57, []), (58, [0, 1, 2]), (61, [0, 1, 2]), (64, []), (66, [])]
set_option maxRecDepth 100000 in
theorem lv_243 : chkLv M_243 LV_243 = true := by decide +kernel
set_option maxRecDepth 100000 in
theorem lva_243_15 : lvA LV_243 15 = [0, 1, 2] := by decide +kernel
set_option maxRecDepth 100000 in
theorem lva_243_58 : lvA LV_243 58 = [0, 1, 2] := by decide +kernel
set_option maxRecDepth 100000 in
theorem p_243_0 {n d : Nat} {Q : Option Value → Sg → Prop} (σ : Sg) (x1 : Int32) (h : (∀ w2 σ1, RCx PRG n 242 [.ref 97, .int x1] σ (some (.int w2)) σ1 → (w2 = 0 ∨ w2 = 1) → ((w2 = 0 → Q (some (.int (-2 : Int32))) σ1) ∧ (¬ w2 = 0 → Pl PRG n d 243 15 [(0, .ref 97), (1, .int x1), (2, .int (x1 + (1 : Int32)))] [] σ1 Q)))) : Pl PRG (n + 1) d 243 0 [(0, .ref 97), (1, .int x1)] [] σ Q := by
  have hM : PRG[243]? = some M_243 := rfl
  refine Pl.sg1 (pc' := 2) (ls' := [(0, .ref 97), (1, .int x1)]) (st' := [.int x1, .ref 97]) (σ' := σ) hM 1 rfl ?_
  refine Pl.weak (Pl.cZ hM rfl rfl (by decide) (Mj := M_242) rfl rfl (fun w2 σ1 hw hz => ?_))
  replace h := h w2 σ1 hw hz
  refine Pl.brN (c := w2 = 0) (a := 11) (b := 8) (ls' := [(0, .ref 97), (1, .int x1)]) (st' := []) (σ' := σ1) hM 1 rfl (fun c => ?_) (fun c => ?_)
  · replace h := h.2 c
    refine Pl.seg (pc' := 15) (ls' := [(2, .int (x1 + (1 : Int32))), (0, .ref 97), (1, .int x1)]) (st' := []) (σ' := σ1) hM 4 rfl ?_
    exact Pl.live (l' := [(0, .ref 97), (1, .int x1), (2, .int (x1 + (1 : Int32)))]) hM lv_243 ⟨show ndL _ from (by decide : List.Nodup ([2, 0, 1] : List Nat)), show ndL _ from (by decide : List.Nodup ([0, 1, 2] : List Nat)), by rw [lva_243_15]; exact List.forall_mem_cons.mpr ⟨rfl, List.forall_mem_cons.mpr ⟨rfl, List.forall_mem_cons.mpr ⟨rfl, fun _ h => absurd h List.not_mem_nil⟩⟩⟩⟩ h
  · replace h := h.1 c
    refine Pl.seg (pc' := 10) (ls' := [(0, .ref 97), (1, .int x1)]) (st' := [.int (-2 : Int32)]) (σ' := σ1) hM 1 rfl ?_
    refine Pl.weak (Pl.ret hM rfl rfl h)
set_option maxRecDepth 100000 in
theorem p_243_15 {n d : Nat} {Q : Option Value → Sg → Prop} (σ : Sg) (x1 x2 : Int32) (h : (((σ.1 97 48) ≤ x2 → Q (some (.int (-2 : Int32))) σ) ∧ (¬ (σ.1 97 48) ≤ x2 → (inR x2 16 = true → (inR x1 16 = true → (((σ.1 127 x2.toNatClampNeg) = (σ.1 127 x1.toNatClampNeg) → (inR x2 16 = true → (∀ w2 σ1, RCx PRG n 212 [.ref 97, .int (σ.1 126 x2.toNatClampNeg)] σ (some (.int w2)) σ1 → (∀ w4 σ3, RCx PRG n 232 [.ref 97, .int x1] σ1 (some (.int w4)) σ3 → ((w2 = w4 → Q (some (.int x2)) σ3) ∧ (¬ w2 = w4 → Pl PRG n d 243 58 [(0, .ref 97), (1, .int x1), (2, .int x2)] [] σ3 Q)))))) ∧ (¬ (σ.1 127 x2.toNatClampNeg) = (σ.1 127 x1.toNatClampNeg) → Pl PRG n d 243 58 [(0, .ref 97), (1, .int x1), (2, .int x2)] [] σ Q))))))) : Pl PRG (n + 1) d 243 15 [(0, .ref 97), (1, .int x1), (2, .int x2)] [] σ Q := by
  have hM : PRG[243]? = some M_243 := rfl
  refine Pl.br1 (c := (σ.1 97 48) ≤ x2) (a := 64) (b := 23) (ls' := [(0, .ref 97), (1, .int x1), (2, .int x2)]) (st' := []) (σ' := σ) hM 3 rfl (fun c => ?_) (fun c => ?_)
  · replace h := h.1 c
    refine Pl.seg (pc' := 66) (ls' := [(0, .ref 97), (1, .int x1), (2, .int x2)]) (st' := [.int (-2 : Int32)]) (σ' := σ) hM 1 rfl ?_
    refine Pl.weak (Pl.ret hM rfl rfl h)
  · replace h := h.2 c
    refine Pl.seg (pc' := 28) (ls' := [(0, .ref 97), (1, .int x1), (2, .int x2)]) (st' := [.int x2, .ref 127]) (σ' := σ) hM 3 rfl ?_
    refine Pl.weak (Pl.iald hM rfl rfl (fun hi => ?_))
    replace h := h hi
    refine Pl.seg (pc' := 34) (ls' := [(0, .ref 97), (1, .int x1), (2, .int x2)]) (st' := [.int x1, .ref 127, .int (σ.1 127 x2.toNatClampNeg)]) (σ' := σ) hM 3 rfl ?_
    refine Pl.weak (Pl.iald hM rfl rfl (fun hi => ?_))
    replace h := h hi
    refine Pl.brN (c := (σ.1 127 x2.toNatClampNeg) = (σ.1 127 x1.toNatClampNeg)) (a := 58) (b := 38) (ls' := [(0, .ref 97), (1, .int x1), (2, .int x2)]) (st' := []) (σ' := σ) hM 1 rfl (fun c => ?_) (fun c => ?_)
    · replace h := h.2 c
      exact Pl.live (l' := [(0, .ref 97), (1, .int x1), (2, .int x2)]) hM lv_243 ⟨show ndL _ from (by decide : List.Nodup ([0, 1, 2] : List Nat)), show ndL _ from (by decide : List.Nodup ([0, 1, 2] : List Nat)), by rw [lva_243_58]; exact List.forall_mem_cons.mpr ⟨rfl, List.forall_mem_cons.mpr ⟨rfl, List.forall_mem_cons.mpr ⟨rfl, fun _ h => absurd h List.not_mem_nil⟩⟩⟩⟩ h
    · replace h := h.1 c
      refine Pl.seg (pc' := 44) (ls' := [(0, .ref 97), (1, .int x1), (2, .int x2)]) (st' := [.int x2, .ref 126, .ref 97]) (σ' := σ) hM 4 rfl ?_
      refine Pl.weak (Pl.iald hM rfl rfl (fun hi => ?_))
      replace h := h hi
      refine Pl.weak (Pl.cI hM rfl rfl (by decide) (Mj := M_212) rfl rfl (fun w2 σ1 hw => ?_))
      replace h := h w2 σ1 hw
      refine Pl.seg (pc' := 50) (ls' := [(0, .ref 97), (1, .int x1), (2, .int x2)]) (st' := [.int x1, .ref 97, .int w2]) (σ' := σ1) hM 2 rfl ?_
      refine Pl.weak (Pl.cI hM rfl rfl (by decide) (Mj := M_232) rfl rfl (fun w4 σ3 hw => ?_))
      replace h := h w4 σ3 hw
      refine Pl.brN (c := w2 = w4) (a := 58) (b := 56) (ls' := [(0, .ref 97), (1, .int x1), (2, .int x2)]) (st' := []) (σ' := σ3) hM 1 rfl (fun c => ?_) (fun c => ?_)
      · replace h := h.2 c
        exact Pl.live (l' := [(0, .ref 97), (1, .int x1), (2, .int x2)]) hM lv_243 ⟨show ndL _ from (by decide : List.Nodup ([0, 1, 2] : List Nat)), show ndL _ from (by decide : List.Nodup ([0, 1, 2] : List Nat)), by rw [lva_243_58]; exact List.forall_mem_cons.mpr ⟨rfl, List.forall_mem_cons.mpr ⟨rfl, List.forall_mem_cons.mpr ⟨rfl, fun _ h => absurd h List.not_mem_nil⟩⟩⟩⟩ h
      · replace h := h.1 c
        refine Pl.seg (pc' := 57) (ls' := [(0, .ref 97), (1, .int x1), (2, .int x2)]) (st' := [.int x2]) (σ' := σ3) hM 1 rfl ?_
        refine Pl.weak (Pl.ret hM rfl rfl h)
set_option maxRecDepth 100000 in
theorem p_243_58 {n d : Nat} {Q : Option Value → Sg → Prop} (σ : Sg) (x1 x2 : Int32) (h : Pl PRG n d 243 15 [(0, .ref 97), (1, .int x1), (2, .int (x2 + (1 : Int32)))] [] σ Q) : Pl PRG (n + 1) d 243 58 [(0, .ref 97), (1, .int x1), (2, .int x2)] [] σ Q := by
  have hM : PRG[243]? = some M_243 := rfl
  refine Pl.sg1 (pc' := 15) (ls' := [(2, .int (x2 + (1 : Int32))), (0, .ref 97), (1, .int x1)]) (st' := []) (σ' := σ) hM 1 rfl ?_
  exact Pl.live (l' := [(0, .ref 97), (1, .int x1), (2, .int (x2 + (1 : Int32)))]) hM lv_243 ⟨show ndL _ from (by decide : List.Nodup ([2, 0, 1] : List Nat)), show ndL _ from (by decide : List.Nodup ([0, 1, 2] : List Nat)), by rw [lva_243_15]; exact List.forall_mem_cons.mpr ⟨rfl, List.forall_mem_cons.mpr ⟨rfl, List.forall_mem_cons.mpr ⟨rfl, fun _ h => absurd h List.not_mem_nil⟩⟩⟩⟩ h
def LV_244 : List (Nat × List Nat) := [(0, [0, 1, 2]), (1, [0, 1, 2]), (4, [0, 1, 2]), (7, [0, 1, 2]), (8, [0, 1, 2]), (9, [0, 1, 2]), (10, [0, 1, 2]), (13, [0, 1, 2]), (14, [0, 1, 2]), (15, [0, 1, 2]), (18, [0, 1, 2]), (21, []), (22, []), (23, [0, 1, 2]), (24, [0, 1]), (64, [0, 1]), (65, [1]), (68, [1]), (69, []), (70, []), (71, [0, 1]), (72, [1]), (75, [1]), (76, []), (77, []), (78, [0, 1]), (79, [1]), (80, []), (83, []), (84, [0, 1]), (85, [1]), (86, []), (89, []), (90, [0, 1]), (91, [1]), (92, []), (95, []), (98, []), (99, []), (102, []), (103, []), (104, [0, 1]), (105, [1]), (106, []), (109, []), (110, []), (111, [])]
set_option maxRecDepth 100000 in
theorem lv_244 : chkLv M_244 LV_244 = true := by decide +kernel
set_option maxRecDepth 100000 in
theorem lva_244_21 : lvA LV_244 21 = [] := by decide +kernel
set_option maxRecDepth 100000 in
theorem p_244_0 {n d : Nat} {Q : Option Value → Sg → Prop} (σ : Sg) (x1 x2 : Int32) (h : (((σ.1 97 45) = 0 → Pl PRG n d 244 21 [] [] σ Q) ∧ (¬ (σ.1 97 45) = 0 → (∀ w2 σ1, RCx PRG n 195 [.int x1, .int (0 : Int32), .int ((σ.1 97 48) - (1 : Int32))] σ (some (.int w2)) σ1 → (w2 = 0 ∨ w2 = 1) → ((w2 = 0 → Pl PRG n d 244 21 [] [] σ1 Q) ∧ (¬ w2 = 0 → ((x2.toInt < 0 ∨ 5 < x2.toInt → Q (some (.int (-1 : Int32))) σ1) ∧ (x2.toInt = 0 → (inR x1 16 = true → Q (some (.int (σ1.1 126 x1.toNatClampNeg))) σ1)) ∧ (x2.toInt = 1 → (inR x1 16 = true → Q (some (.int (σ1.1 127 x1.toNatClampNeg))) σ1)) ∧ (x2.toInt = 2 → (∀ w4 σ3, RCx PRG n 240 [.ref 97, .int x1] σ1 (some (.int w4)) σ3 → Q (some (.int w4)) σ3)) ∧ (x2.toInt = 3 → (∀ w6 σ5, RCx PRG n 241 [.ref 97, .int x1] σ1 (some (.int w6)) σ5 → Q (some (.int w6)) σ5)) ∧ (x2.toInt = 4 → (∀ w8 σ7, RCx PRG n 242 [.ref 97, .int x1] σ1 (some (.int w8)) σ7 → (w8 = 0 ∨ w8 = 1) → ((w8 = 0 → Q (some (.int (0 : Int32))) σ7) ∧ (¬ w8 = 0 → Q (some (.int (1 : Int32))) σ7)))) ∧ (x2.toInt = 5 → (∀ w10 σ9, RCx PRG n 243 [.ref 97, .int x1] σ1 (some (.int w10)) σ9 → Q (some (.int w10)) σ9))))))))) : Pl PRG (n + 1) d 244 0 [(0, .ref 97), (1, .int x1), (2, .int x2)] [] σ Q := by
  have hM : PRG[244]? = some M_244 := rfl
  refine Pl.br1 (c := (σ.1 97 45) = 0) (a := 21) (b := 7) (ls' := [(0, .ref 97), (1, .int x1), (2, .int x2)]) (st' := []) (σ' := σ) hM 2 rfl (fun c => ?_) (fun c => ?_)
  · replace h := h.1 c
    exact Pl.live (l' := []) hM lv_244 ⟨show ndL _ from (by decide : List.Nodup ([0, 1, 2] : List Nat)), show ndL _ from (by decide : List.Nodup ([] : List Nat)), by rw [lva_244_21]; exact fun _ h => absurd h List.not_mem_nil⟩ h
  · replace h := h.2 c
    refine Pl.seg (pc' := 15) (ls' := [(0, .ref 97), (1, .int x1), (2, .int x2)]) (st' := [.int ((σ.1 97 48) - (1 : Int32)), .int (0 : Int32), .int x1]) (σ' := σ) hM 6 rfl ?_
    refine Pl.weak (Pl.cZ hM rfl rfl (by decide) (Mj := M_195) rfl rfl (fun w2 σ1 hw hz => ?_))
    replace h := h w2 σ1 hw hz
    refine Pl.brN (c := w2 = 0) (a := 23) (b := 21) (ls' := [(0, .ref 97), (1, .int x1), (2, .int x2)]) (st' := []) (σ' := σ1) hM 1 rfl (fun c => ?_) (fun c => ?_)
    · replace h := h.2 c
      refine Pl.seg (pc' := 24) (ls' := [(0, .ref 97), (1, .int x1), (2, .int x2)]) (st' := [.int x2]) (σ' := σ1) hM 1 rfl ?_
      refine Pl.weak (Pl.tsw hM rfl (fun c => ?_) (fun j o c ho => ?_))
      · replace h := h.1 c
        show Pl PRG n d 244 110 [(0, .ref 97), (1, .int x1), (2, .int x2)] [] σ1 Q
        refine Pl.seg (pc' := 111) (ls' := [(0, .ref 97), (1, .int x1), (2, .int x2)]) (st' := [.int (-1 : Int32)]) (σ' := σ1) hM 1 rfl ?_
        refine Pl.weak (Pl.ret hM rfl rfl h)
      · match j, c, ho with
        | 0, c, ho =>
          have ho : some (40 : Int) = some o := ho
          cases ho
          have c : x2.toInt = 0 := by simpa using c
          replace h := h.2.1 c
          show Pl PRG n d 244 64 [(0, .ref 97), (1, .int x1), (2, .int x2)] [] σ1 Q
          refine Pl.seg (pc' := 69) (ls' := [(0, .ref 97), (1, .int x1), (2, .int x2)]) (st' := [.int x1, .ref 126]) (σ' := σ1) hM 3 rfl ?_
          refine Pl.weak (Pl.iald hM rfl rfl (fun hi => ?_))
          replace h := h hi
          refine Pl.weak (Pl.ret hM rfl rfl h)
        | 1, c, ho =>
          have ho : some (47 : Int) = some o := ho
          cases ho
          have c : x2.toInt = 1 := by simpa using c
          replace h := h.2.2.1 c
          show Pl PRG n d 244 71 [(0, .ref 97), (1, .int x1), (2, .int x2)] [] σ1 Q
          refine Pl.seg (pc' := 76) (ls' := [(0, .ref 97), (1, .int x1), (2, .int x2)]) (st' := [.int x1, .ref 127]) (σ' := σ1) hM 3 rfl ?_
          refine Pl.weak (Pl.iald hM rfl rfl (fun hi => ?_))
          replace h := h hi
          refine Pl.weak (Pl.ret hM rfl rfl h)
        | 2, c, ho =>
          have ho : some (54 : Int) = some o := ho
          cases ho
          have c : x2.toInt = 2 := by simpa using c
          replace h := h.2.2.2.1 c
          show Pl PRG n d 244 78 [(0, .ref 97), (1, .int x1), (2, .int x2)] [] σ1 Q
          refine Pl.seg (pc' := 80) (ls' := [(0, .ref 97), (1, .int x1), (2, .int x2)]) (st' := [.int x1, .ref 97]) (σ' := σ1) hM 2 rfl ?_
          refine Pl.weak (Pl.cI hM rfl rfl (by decide) (Mj := M_240) rfl rfl (fun w4 σ3 hw => ?_))
          replace h := h w4 σ3 hw
          refine Pl.weak (Pl.ret hM rfl rfl h)
        | 3, c, ho =>
          have ho : some (60 : Int) = some o := ho
          cases ho
          have c : x2.toInt = 3 := by simpa using c
          replace h := h.2.2.2.2.1 c
          show Pl PRG n d 244 84 [(0, .ref 97), (1, .int x1), (2, .int x2)] [] σ1 Q
          refine Pl.seg (pc' := 86) (ls' := [(0, .ref 97), (1, .int x1), (2, .int x2)]) (st' := [.int x1, .ref 97]) (σ' := σ1) hM 2 rfl ?_
          refine Pl.weak (Pl.cI hM rfl rfl (by decide) (Mj := M_241) rfl rfl (fun w6 σ5 hw => ?_))
          replace h := h w6 σ5 hw
          refine Pl.weak (Pl.ret hM rfl rfl h)
        | 4, c, ho =>
          have ho : some (66 : Int) = some o := ho
          cases ho
          have c : x2.toInt = 4 := by simpa using c
          replace h := h.2.2.2.2.2.1 c
          show Pl PRG n d 244 90 [(0, .ref 97), (1, .int x1), (2, .int x2)] [] σ1 Q
          refine Pl.seg (pc' := 92) (ls' := [(0, .ref 97), (1, .int x1), (2, .int x2)]) (st' := [.int x1, .ref 97]) (σ' := σ1) hM 2 rfl ?_
          refine Pl.weak (Pl.cZ hM rfl rfl (by decide) (Mj := M_242) rfl rfl (fun w8 σ7 hw hz => ?_))
          replace h := h w8 σ7 hw hz
          refine Pl.br (c := w8 = 0) (a := 102) (b := 98) (ls' := [(0, .ref 97), (1, .int x1), (2, .int x2)]) (st' := []) (σ' := σ7) hM 1 rfl (fun c => ?_) (fun c => ?_)
          · replace h := h.1 c
            refine Pl.seg (pc' := 103) (ls' := [(0, .ref 97), (1, .int x1), (2, .int x2)]) (st' := [.int (0 : Int32)]) (σ' := σ7) hM 1 rfl ?_
            refine Pl.weak (Pl.ret hM rfl rfl h)
          · replace h := h.2 c
            refine Pl.seg (pc' := 103) (ls' := [(0, .ref 97), (1, .int x1), (2, .int x2)]) (st' := [.int (1 : Int32)]) (σ' := σ7) hM 2 rfl ?_
            refine Pl.weak (Pl.ret hM rfl rfl h)
        | 5, c, ho =>
          have ho : some (80 : Int) = some o := ho
          cases ho
          have c : x2.toInt = 5 := by simpa using c
          replace h := h.2.2.2.2.2.2 c
          show Pl PRG n d 244 104 [(0, .ref 97), (1, .int x1), (2, .int x2)] [] σ1 Q
          refine Pl.seg (pc' := 106) (ls' := [(0, .ref 97), (1, .int x1), (2, .int x2)]) (st' := [.int x1, .ref 97]) (σ' := σ1) hM 2 rfl ?_
          refine Pl.weak (Pl.cI hM rfl rfl (by decide) (Mj := M_243) rfl rfl (fun w10 σ9 hw => ?_))
          replace h := h w10 σ9 hw
          refine Pl.weak (Pl.ret hM rfl rfl h)
        | k + 6, c, ho => exact absurd ho (by intro e; have e : (none : Option Int) = some o := e; cases e)
    · replace h := h.1 c
      exact Pl.live (l' := []) hM lv_244 ⟨show ndL _ from (by decide : List.Nodup ([0, 1, 2] : List Nat)), show ndL _ from (by decide : List.Nodup ([] : List Nat)), by rw [lva_244_21]; exact fun _ h => absurd h List.not_mem_nil⟩ h
set_option maxRecDepth 100000 in
theorem p_244_21 {n d : Nat} {Q : Option Value → Sg → Prop} (σ : Sg) (h : Q (some (.int (-1 : Int32))) σ) : Pl PRG (n + 1) d 244 21 [] [] σ Q := by
  have hM : PRG[244]? = some M_244 := rfl
  refine Pl.sg1 (pc' := 22) (ls' := []) (st' := [.int (-1 : Int32)]) (σ' := σ) hM 0 rfl ?_
  refine Pl.weak (Pl.ret hM rfl rfl h)
def LV_245 : List (Nat × List Nat) := [(0, [0, 1]), (1, [0, 1]), (2, [0, 1]), (3, [0, 1]), (6, [0, 1]), (9, []), (10, []), (11, [0, 1]), (12, [0, 1]), (13, [0, 1, 2]), (14, [0, 1, 2]), (15, [0, 1, 2, 3]), (16, [0, 1, 2, 3]), (17, [0, 1, 2, 3]), (20, [0, 1, 2, 3]), (21, [0, 1, 2, 3]), (22, [0, 1, 2, 3]), (25, [0, 1, 2, 3]), (26, [0, 1, 2, 3]), (27, [0, 1, 2, 3]), (30, [0, 1, 2, 3]), (31, [0, 1, 2, 3]), (32, [0, 1, 2, 3]), (33, [0, 1, 2, 3]), (36, [0, 1, 2, 3]), (39, [0, 1, 2, 3]), (42, [0, 1, 2, 3]), (45, [2]), (46, [])]
set_option maxRecDepth 100000 in
theorem lv_245 : chkLv M_245 LV_245 = true := by decide +kernel
set_option maxRecDepth 100000 in
theorem lva_245_15 : lvA LV_245 15 = [0, 1, 2, 3] := by decide +kernel
set_option maxRecDepth 100000 in
theorem lva_245_39 : lvA LV_245 39 = [0, 1, 2, 3] := by decide +kernel
set_option maxRecDepth 100000 in
theorem p_245_0 {n d : Nat} {Q : Option Value → Sg → Prop} (σ : Sg) (x1 : Int32) (h : (∀ w2 σ1, RCx PRG n 195 [.int x1, .int (0 : Int32), .int (1 : Int32)] σ (some (.int w2)) σ1 → (w2 = 0 ∨ w2 = 1) → ((w2 = 0 → Q (some (.int (-1 : Int32))) σ1) ∧ (¬ w2 = 0 → Pl PRG n d 245 15 [(0, .ref 97), (1, .int x1), (2, .int (0 : Int32)), (3, .int (0 : Int32))] [] σ1 Q)))) : Pl PRG (n + 1) d 245 0 [(0, .ref 97), (1, .int x1)] [] σ Q := by
  have hM : PRG[245]? = some M_245 := rfl
  refine Pl.sg1 (pc' := 3) (ls' := [(0, .ref 97), (1, .int x1)]) (st' := [.int (1 : Int32), .int (0 : Int32), .int x1]) (σ' := σ) hM 2 rfl ?_
  refine Pl.weak (Pl.cZ hM rfl rfl (by decide) (Mj := M_195) rfl rfl (fun w2 σ1 hw hz => ?_))
  replace h := h w2 σ1 hw hz
  refine Pl.brN (c := w2 = 0) (a := 11) (b := 9) (ls' := [(0, .ref 97), (1, .int x1)]) (st' := []) (σ' := σ1) hM 1 rfl (fun c => ?_) (fun c => ?_)
  · replace h := h.2 c
    refine Pl.seg (pc' := 15) (ls' := [(3, .int (0 : Int32)), (2, .int (0 : Int32)), (0, .ref 97), (1, .int x1)]) (st' := []) (σ' := σ1) hM 4 rfl ?_
    exact Pl.live (l' := [(0, .ref 97), (1, .int x1), (2, .int (0 : Int32)), (3, .int (0 : Int32))]) hM lv_245 ⟨show ndL _ from (by decide : List.Nodup ([3, 2, 0, 1] : List Nat)), show ndL _ from (by decide : List.Nodup ([0, 1, 2, 3] : List Nat)), by rw [lva_245_15]; exact List.forall_mem_cons.mpr ⟨rfl, List.forall_mem_cons.mpr ⟨rfl, List.forall_mem_cons.mpr ⟨rfl, List.forall_mem_cons.mpr ⟨rfl, fun _ h => absurd h List.not_mem_nil⟩⟩⟩⟩⟩ h
  · replace h := h.1 c
    refine Pl.seg (pc' := 10) (ls' := [(0, .ref 97), (1, .int x1)]) (st' := [.int (-1 : Int32)]) (σ' := σ1) hM 1 rfl ?_
    refine Pl.weak (Pl.ret hM rfl rfl h)
set_option maxRecDepth 100000 in
theorem p_245_15 {n d : Nat} {Q : Option Value → Sg → Prop} (σ : Sg) (x1 x2 x3 : Int32) (h : ((((σ.1 97 48) / (4 : Int32)) ≤ x3 → Q (some (.int x2)) σ) ∧ (¬ ((σ.1 97 48) / (4 : Int32)) ≤ x3 → (∀ w2 σ1, RCx PRG n 229 [.ref 97, .int x3] σ (some (.int w2)) σ1 → (((w2 - w2 / (2 : Int32) * (2 : Int32)) = x1 → Pl PRG n d 245 39 [(0, .ref 97), (1, .int x1), (2, .int (x2 + (1 : Int32))), (3, .int x3)] [] σ1 Q) ∧ (¬ (w2 - w2 / (2 : Int32) * (2 : Int32)) = x1 → Pl PRG n d 245 39 [(0, .ref 97), (1, .int x1), (2, .int x2), (3, .int x3)] [] σ1 Q)))))) : Pl PRG (n + 1) d 245 15 [(0, .ref 97), (1, .int x1), (2, .int x2), (3, .int x3)] [] σ Q := by
  have hM : PRG[245]? = some M_245 := rfl
  refine Pl.br1 (c := ((σ.1 97 48) / (4 : Int32)) ≤ x3) (a := 45) (b := 25) (ls' := [(0, .ref 97), (1, .int x1), (2, .int x2), (3, .int x3)]) (st' := []) (σ' := σ) hM 5 rfl (fun c => ?_) (fun c => ?_)
  · replace h := h.1 c
    refine Pl.seg (pc' := 46) (ls' := [(0, .ref 97), (1, .int x1), (2, .int x2), (3, .int x3)]) (st' := [.int x2]) (σ' := σ) hM 1 rfl ?_
    refine Pl.weak (Pl.ret hM rfl rfl h)
  · replace h := h.2 c
    refine Pl.seg (pc' := 27) (ls' := [(0, .ref 97), (1, .int x1), (2, .int x2), (3, .int x3)]) (st' := [.int x3, .ref 97]) (σ' := σ) hM 2 rfl ?_
    refine Pl.weak (Pl.cI hM rfl rfl (by decide) (Mj := M_229) rfl rfl (fun w2 σ1 hw => ?_))
    replace h := h w2 σ1 hw
    refine Pl.brN (c := (w2 - w2 / (2 : Int32) * (2 : Int32)) = x1) (a := 39) (b := 36) (ls' := [(0, .ref 97), (1, .int x1), (2, .int x2), (3, .int x3)]) (st' := []) (σ' := σ1) hM 4 rfl (fun c => ?_) (fun c => ?_)
    · replace h := h.2 c
      exact Pl.live (l' := [(0, .ref 97), (1, .int x1), (2, .int x2), (3, .int x3)]) hM lv_245 ⟨show ndL _ from (by decide : List.Nodup ([0, 1, 2, 3] : List Nat)), show ndL _ from (by decide : List.Nodup ([0, 1, 2, 3] : List Nat)), by rw [lva_245_39]; exact List.forall_mem_cons.mpr ⟨rfl, List.forall_mem_cons.mpr ⟨rfl, List.forall_mem_cons.mpr ⟨rfl, List.forall_mem_cons.mpr ⟨rfl, fun _ h => absurd h List.not_mem_nil⟩⟩⟩⟩⟩ h
    · replace h := h.1 c
      refine Pl.seg (pc' := 39) (ls' := [(2, .int (x2 + (1 : Int32))), (0, .ref 97), (1, .int x1), (3, .int x3)]) (st' := []) (σ' := σ1) hM 1 rfl ?_
      exact Pl.live (l' := [(0, .ref 97), (1, .int x1), (2, .int (x2 + (1 : Int32))), (3, .int x3)]) hM lv_245 ⟨show ndL _ from (by decide : List.Nodup ([2, 0, 1, 3] : List Nat)), show ndL _ from (by decide : List.Nodup ([0, 1, 2, 3] : List Nat)), by rw [lva_245_39]; exact List.forall_mem_cons.mpr ⟨rfl, List.forall_mem_cons.mpr ⟨rfl, List.forall_mem_cons.mpr ⟨rfl, List.forall_mem_cons.mpr ⟨rfl, fun _ h => absurd h List.not_mem_nil⟩⟩⟩⟩⟩ h
set_option maxRecDepth 100000 in
theorem p_245_39 {n d : Nat} {Q : Option Value → Sg → Prop} (σ : Sg) (x1 x2 x3 : Int32) (h : Pl PRG n d 245 15 [(0, .ref 97), (1, .int x1), (2, .int x2), (3, .int (x3 + (1 : Int32)))] [] σ Q) : Pl PRG (n + 1) d 245 39 [(0, .ref 97), (1, .int x1), (2, .int x2), (3, .int x3)] [] σ Q := by
  have hM : PRG[245]? = some M_245 := rfl
  refine Pl.sg1 (pc' := 15) (ls' := [(3, .int (x3 + (1 : Int32))), (0, .ref 97), (1, .int x1), (2, .int x2)]) (st' := []) (σ' := σ) hM 1 rfl ?_
  exact Pl.live (l' := [(0, .ref 97), (1, .int x1), (2, .int x2), (3, .int (x3 + (1 : Int32)))]) hM lv_245 ⟨show ndL _ from (by decide : List.Nodup ([3, 0, 1, 2] : List Nat)), show ndL _ from (by decide : List.Nodup ([0, 1, 2, 3] : List Nat)), by rw [lva_245_15]; exact List.forall_mem_cons.mpr ⟨rfl, List.forall_mem_cons.mpr ⟨rfl, List.forall_mem_cons.mpr ⟨rfl, List.forall_mem_cons.mpr ⟨rfl, fun _ h => absurd h List.not_mem_nil⟩⟩⟩⟩⟩ h
set_option maxRecDepth 100000 in
theorem p_246_0 {n d : Nat} {Q : Option Value → Sg → Prop} (σ : Sg) (x1 : Int32) (h : (∀ w2 σ1, RCx PRG n 195 [.int x1, .int (0 : Int32), .int (((σ.1 97 48) / (4 : Int32)) - (1 : Int32))] σ (some (.int w2)) σ1 → (w2 = 0 ∨ w2 = 1) → ((w2 = 0 → Q (some (.int (-1 : Int32))) σ1) ∧ (¬ w2 = 0 → (∀ w4 σ3, RCx PRG n 229 [.ref 97, .int x1] σ1 (some (.int w4)) σ3 → Q (some (.int w4)) σ3))))) : Pl PRG (n + 1) d 246 0 [(0, .ref 97), (1, .int x1)] [] σ Q := by
  have hM : PRG[246]? = some M_246 := rfl
  refine Pl.sg1 (pc' := 10) (ls' := [(0, .ref 97), (1, .int x1)]) (st' := [.int (((σ.1 97 48) / (4 : Int32)) - (1 : Int32)), .int (0 : Int32), .int x1]) (σ' := σ) hM 7 rfl ?_
  refine Pl.weak (Pl.cZ hM rfl rfl (by decide) (Mj := M_195) rfl rfl (fun w2 σ1 hw hz => ?_))
  replace h := h w2 σ1 hw hz
  refine Pl.br (c := w2 = 0) (a := 24) (b := 16) (ls' := [(0, .ref 97), (1, .int x1)]) (st' := []) (σ' := σ1) hM 1 rfl (fun c => ?_) (fun c => ?_)
  · replace h := h.1 c
    refine Pl.seg (pc' := 25) (ls' := [(0, .ref 97), (1, .int x1)]) (st' := [.int (-1 : Int32)]) (σ' := σ1) hM 1 rfl ?_
    refine Pl.weak (Pl.ret hM rfl rfl h)
  · replace h := h.2 c
    refine Pl.seg (pc' := 18) (ls' := [(0, .ref 97), (1, .int x1)]) (st' := [.int x1, .ref 97]) (σ' := σ1) hM 2 rfl ?_
    refine Pl.weak (Pl.cI hM rfl rfl (by decide) (Mj := M_229) rfl rfl (fun w4 σ3 hw => ?_))
    replace h := h w4 σ3 hw
    refine Pl.seg (pc' := 25) (ls' := [(0, .ref 97), (1, .int x1)]) (st' := [.int w4]) (σ' := σ3) hM 1 rfl ?_
    refine Pl.weak (Pl.ret hM rfl rfl h)
def LV_247 : List (Nat × List Nat) := [(0, [0, 1]), (1, [0, 1]), (2, [0, 1]), (3, [0, 1]), (6, [0, 1]), (9, []), (10, []), (11, [0, 1]), (12, [0, 1]), (13, [0, 1, 2]), (14, [0, 1, 2]), (15, [0, 1, 2, 3]), (17, [0, 1, 2, 3]), (19, [0, 1, 2, 3, 4]), (20, [0, 1, 2, 3, 4]), (22, [0, 1, 2, 3, 4, 5]), (24, [0, 1, 2, 3, 4, 5]), (25, [0, 1, 2, 3, 4, 5]), (28, [0, 1, 2, 3, 4, 5]), (31, [0, 1, 2, 3, 4, 5]), (32, [0, 1, 2, 3, 4, 5]), (34, [0, 1, 2, 3, 4, 5]), (37, [0, 1, 2, 3, 4, 5]), (40, [0, 1, 2, 3, 4, 5]), (43, [0, 1, 2, 3, 4, 5]), (46, [0, 1, 2, 3, 4, 5]), (47, [0, 1, 2, 3, 4, 5]), (49, [0, 1, 2, 3, 4, 5]), (52, [0, 1, 2, 3, 4, 5]), (54, [0, 1, 2, 3, 4, 5, 6]), (56, [0, 1, 2, 3, 4, 5, 6]), (59, [0, 1, 2, 3, 4, 5]), (62, [0, 1, 2, 3, 4, 5, 6]), (65, [0, 1, 2, 3, 4, 5, 6]), (67, [0, 1, 2, 3, 4, 5, 6]), (70, [0, 1, 2, 3, 4, 5, 6]), (72, [0, 1, 2, 3, 4, 5, 6]), (73, [0, 1, 2, 3, 4, 5, 6]), (74, [0, 1, 2, 3, 4, 5, 6]), (76, [0, 1, 2, 3, 4, 5, 6]), (79, [0, 1, 2, 3, 5, 6]), (81, [0, 1, 2, 3, 5]), (82, [0, 1, 2, 3, 5]), (83, [0, 1, 2, 3, 5]), (85, [0, 1, 2, 3, 4, 5]), (88, [0, 1, 2, 3, 4, 5]), (91, [1, 2, 3, 4]), (92, [1, 2, 3, 4]), (95, [2]), (96, []), (99, [1, 3, 4]), (100, [3, 4]), (101, [3, 4]), (104, [3]), (105, []), (108, [4]), (110, [])]
set_option maxRecDepth 100000 in
theorem lv_247 : chkLv M_247 LV_247 = true := by decide +kernel
set_option maxRecDepth 100000 in
theorem lva_247_22 : lvA LV_247 22 = [0, 1, 2, 3, 4, 5] := by decide +kernel
set_option maxRecDepth 100000 in
theorem lva_247_79 : lvA LV_247 79 = [0, 1, 2, 3, 5, 6] := by decide +kernel
set_option maxRecDepth 100000 in
theorem lva_247_85 : lvA LV_247 85 = [0, 1, 2, 3, 4, 5] := by decide +kernel
set_option maxRecDepth 100000 in
theorem p_247_0 {n d : Nat} {Q : Option Value → Sg → Prop} (σ : Sg) (x1 : Int32) (h : (∀ w2 σ1, RCx PRG n 195 [.int x1, .int (0 : Int32), .int (2 : Int32)] σ (some (.int w2)) σ1 → (w2 = 0 ∨ w2 = 1) → ((w2 = 0 → Q (some (.int (-1 : Int32))) σ1) ∧ (¬ w2 = 0 → Pl PRG n d 247 22 [(0, .ref 97), (1, .int x1), (2, .int (0 : Int32)), (3, .int (0 : Int32)), (4, .int (-2 : Int32)), (5, .int (0 : Int32))] [] σ1 Q)))) : Pl PRG (n + 1) d 247 0 [(0, .ref 97), (1, .int x1)] [] σ Q := by
  have hM : PRG[247]? = some M_247 := rfl
  refine Pl.sg1 (pc' := 3) (ls' := [(0, .ref 97), (1, .int x1)]) (st' := [.int (2 : Int32), .int (0 : Int32), .int x1]) (σ' := σ) hM 2 rfl ?_
  refine Pl.weak (Pl.cZ hM rfl rfl (by decide) (Mj := M_195) rfl rfl (fun w2 σ1 hw hz => ?_))
  replace h := h w2 σ1 hw hz
  refine Pl.brN (c := w2 = 0) (a := 11) (b := 9) (ls' := [(0, .ref 97), (1, .int x1)]) (st' := []) (σ' := σ1) hM 1 rfl (fun c => ?_) (fun c => ?_)
  · replace h := h.2 c
    refine Pl.seg (pc' := 22) (ls' := [(5, .int (0 : Int32)), (4, .int (-2 : Int32)), (3, .int (0 : Int32)), (2, .int (0 : Int32)), (0, .ref 97), (1, .int x1)]) (st' := []) (σ' := σ1) hM 8 rfl ?_
    exact Pl.live (l' := [(0, .ref 97), (1, .int x1), (2, .int (0 : Int32)), (3, .int (0 : Int32)), (4, .int (-2 : Int32)), (5, .int (0 : Int32))]) hM lv_247 ⟨show ndL _ from (by decide : List.Nodup ([5, 4, 3, 2, 0, 1] : List Nat)), show ndL _ from (by decide : List.Nodup ([0, 1, 2, 3, 4, 5] : List Nat)), by rw [lva_247_22]; exact List.forall_mem_cons.mpr ⟨rfl, List.forall_mem_cons.mpr ⟨rfl, List.forall_mem_cons.mpr ⟨rfl, List.forall_mem_cons.mpr ⟨rfl, List.forall_mem_cons.mpr ⟨rfl, List.forall_mem_cons.mpr ⟨rfl, fun _ h => absurd h List.not_mem_nil⟩⟩⟩⟩⟩⟩⟩ h
  · replace h := h.1 c
    refine Pl.seg (pc' := 10) (ls' := [(0, .ref 97), (1, .int x1)]) (st' := [.int (-1 : Int32)]) (σ' := σ1) hM 1 rfl ?_
    refine Pl.weak (Pl.ret hM rfl rfl h)
set_option maxRecDepth 100000 in
theorem p_247_22 {n d : Nat} {Q : Option Value → Sg → Prop} (σ : Sg) (x1 x2 x3 x4 x5 : Int32) (h : (((σ.1 97 48) ≤ x5 → ((x1 = 0 → Q (some (.int x2)) σ) ∧ (¬ x1 = 0 → ((x1 = (1 : Int32) → Q (some (.int x3)) σ) ∧ (¬ x1 = (1 : Int32) → Q (some (.int x4)) σ))))) ∧ (¬ (σ.1 97 48) ≤ x5 → (∀ w2 σ1, RCx PRG n 242 [.ref 97, .int x5] σ (some (.int w2)) σ1 → (w2 = 0 ∨ w2 = 1) → ((w2 = 0 → Pl PRG n d 247 85 [(0, .ref 97), (1, .int x1), (2, .int x2), (3, .int x3), (4, .int x4), (5, .int x5)] [] σ1 Q) ∧ (¬ w2 = 0 → (∀ w4 σ3, RCx PRG n 243 [.ref 97, .int x5] σ1 (some (.int w4)) σ3 → ((0 ≤ w4 → ((x4 < 0 → Pl PRG n d 247 79 [(0, .ref 97), (1, .int x1), (2, .int (x2 + (1 : Int32))), (3, .int (x3 + (1 : Int32))), (5, .int x5), (6, .int w4)] [] σ3 Q) ∧ (¬ x4 < 0 → ((x4 ≤ (w4 / (4 : Int32)) → Pl PRG n d 247 85 [(0, .ref 97), (1, .int x1), (2, .int (x2 + (1 : Int32))), (3, .int (x3 + (1 : Int32))), (4, .int x4), (5, .int x5)] [] σ3 Q) ∧ (¬ x4 ≤ (w4 / (4 : Int32)) → Pl PRG n d 247 79 [(0, .ref 97), (1, .int x1), (2, .int (x2 + (1 : Int32))), (3, .int (x3 + (1 : Int32))), (5, .int x5), (6, .int w4)] [] σ3 Q))))) ∧ (¬ 0 ≤ w4 → Pl PRG n d 247 85 [(0, .ref 97), (1, .int x1), (2, .int (x2 + (1 : Int32))), (3, .int x3), (4, .int x4), (5, .int x5)] [] σ3 Q))))))))) : Pl PRG (n + 1) d 247 22 [(0, .ref 97), (1, .int x1), (2, .int x2), (3, .int x3), (4, .int x4), (5, .int x5)] [] σ Q := by
  have hM : PRG[247]? = some M_247 := rfl
  refine Pl.br1 (c := (σ.1 97 48) ≤ x5) (a := 91) (b := 31) (ls' := [(0, .ref 97), (1, .int x1), (2, .int x2), (3, .int x3), (4, .int x4), (5, .int x5)]) (st' := []) (σ' := σ) hM 3 rfl (fun c => ?_) (fun c => ?_)
  · replace h := h.1 c
    refine Pl.brN (c := x1 = 0) (a := 99) (b := 95) (ls' := [(0, .ref 97), (1, .int x1), (2, .int x2), (3, .int x3), (4, .int x4), (5, .int x5)]) (st' := []) (σ' := σ) hM 2 rfl (fun c => ?_) (fun c => ?_)
    · replace h := h.2 c
      refine Pl.brN (c := x1 = (1 : Int32)) (a := 108) (b := 104) (ls' := [(0, .ref 97), (1, .int x1), (2, .int x2), (3, .int x3), (4, .int x4), (5, .int x5)]) (st' := []) (σ' := σ) hM 3 rfl (fun c => ?_) (fun c => ?_)
      · replace h := h.2 c
        refine Pl.seg (pc' := 110) (ls' := [(0, .ref 97), (1, .int x1), (2, .int x2), (3, .int x3), (4, .int x4), (5, .int x5)]) (st' := [.int x4]) (σ' := σ) hM 1 rfl ?_
        refine Pl.weak (Pl.ret hM rfl rfl h)
      · replace h := h.1 c
        refine Pl.seg (pc' := 110) (ls' := [(0, .ref 97), (1, .int x1), (2, .int x2), (3, .int x3), (4, .int x4), (5, .int x5)]) (st' := [.int x3]) (σ' := σ) hM 2 rfl ?_
        refine Pl.weak (Pl.ret hM rfl rfl h)
    · replace h := h.1 c
      refine Pl.seg (pc' := 110) (ls' := [(0, .ref 97), (1, .int x1), (2, .int x2), (3, .int x3), (4, .int x4), (5, .int x5)]) (st' := [.int x2]) (σ' := σ) hM 2 rfl ?_
      refine Pl.weak (Pl.ret hM rfl rfl h)
  · replace h := h.2 c
    refine Pl.seg (pc' := 34) (ls' := [(0, .ref 97), (1, .int x1), (2, .int x2), (3, .int x3), (4, .int x4), (5, .int x5)]) (st' := [.int x5, .ref 97]) (σ' := σ) hM 2 rfl ?_
    refine Pl.weak (Pl.cZ hM rfl rfl (by decide) (Mj := M_242) rfl rfl (fun w2 σ1 hw hz => ?_))
    replace h := h w2 σ1 hw hz
    refine Pl.brN (c := w2 = 0) (a := 43) (b := 40) (ls' := [(0, .ref 97), (1, .int x1), (2, .int x2), (3, .int x3), (4, .int x4), (5, .int x5)]) (st' := []) (σ' := σ1) hM 1 rfl (fun c => ?_) (fun c => ?_)
    · replace h := h.2 c
      refine Pl.seg (pc' := 49) (ls' := [(2, .int (x2 + (1 : Int32))), (0, .ref 97), (1, .int x1), (3, .int x3), (4, .int x4), (5, .int x5)]) (st' := [.int x5, .ref 97]) (σ' := σ1) hM 3 rfl ?_
      refine Pl.weak (Pl.cI hM rfl rfl (by decide) (Mj := M_243) rfl rfl (fun w4 σ3 hw => ?_))
      replace h := h w4 σ3 hw
      refine Pl.br (c := 0 ≤ w4) (a := 62) (b := 59) (ls' := [(6, .int w4), (2, .int (x2 + (1 : Int32))), (0, .ref 97), (1, .int x1), (3, .int x3), (4, .int x4), (5, .int x5)]) (st' := []) (σ' := σ3) hM 3 rfl (fun c => ?_) (fun c => ?_)
      · replace h := h.1 c
        refine Pl.br (c := x4 < 0) (a := 79) (b := 70) (ls' := [(3, .int (x3 + (1 : Int32))), (6, .int w4), (2, .int (x2 + (1 : Int32))), (0, .ref 97), (1, .int x1), (4, .int x4), (5, .int x5)]) (st' := []) (σ' := σ3) hM 3 rfl (fun c => ?_) (fun c => ?_)
        · replace h := h.1 c
          exact Pl.live (l' := [(0, .ref 97), (1, .int x1), (2, .int (x2 + (1 : Int32))), (3, .int (x3 + (1 : Int32))), (5, .int x5), (6, .int w4)]) hM lv_247 ⟨show ndL _ from (by decide : List.Nodup ([3, 6, 2, 0, 1, 4, 5] : List Nat)), show ndL _ from (by decide : List.Nodup ([0, 1, 2, 3, 5, 6] : List Nat)), by rw [lva_247_79]; exact List.forall_mem_cons.mpr ⟨rfl, List.forall_mem_cons.mpr ⟨rfl, List.forall_mem_cons.mpr ⟨rfl, List.forall_mem_cons.mpr ⟨rfl, List.forall_mem_cons.mpr ⟨rfl, List.forall_mem_cons.mpr ⟨rfl, fun _ h => absurd h List.not_mem_nil⟩⟩⟩⟩⟩⟩⟩ h
        · replace h := h.2 c
          refine Pl.br (c := x4 ≤ (w4 / (4 : Int32))) (a := 85) (b := 79) (ls' := [(3, .int (x3 + (1 : Int32))), (6, .int w4), (2, .int (x2 + (1 : Int32))), (0, .ref 97), (1, .int x1), (4, .int x4), (5, .int x5)]) (st' := []) (σ' := σ3) hM 5 rfl (fun c => ?_) (fun c => ?_)
          · replace h := h.1 c
            exact Pl.live (l' := [(0, .ref 97), (1, .int x1), (2, .int (x2 + (1 : Int32))), (3, .int (x3 + (1 : Int32))), (4, .int x4), (5, .int x5)]) hM lv_247 ⟨show ndL _ from (by decide : List.Nodup ([3, 6, 2, 0, 1, 4, 5] : List Nat)), show ndL _ from (by decide : List.Nodup ([0, 1, 2, 3, 4, 5] : List Nat)), by rw [lva_247_85]; exact List.forall_mem_cons.mpr ⟨rfl, List.forall_mem_cons.mpr ⟨rfl, List.forall_mem_cons.mpr ⟨rfl, List.forall_mem_cons.mpr ⟨rfl, List.forall_mem_cons.mpr ⟨rfl, List.forall_mem_cons.mpr ⟨rfl, fun _ h => absurd h List.not_mem_nil⟩⟩⟩⟩⟩⟩⟩ h
          · replace h := h.2 c
            exact Pl.live (l' := [(0, .ref 97), (1, .int x1), (2, .int (x2 + (1 : Int32))), (3, .int (x3 + (1 : Int32))), (5, .int x5), (6, .int w4)]) hM lv_247 ⟨show ndL _ from (by decide : List.Nodup ([3, 6, 2, 0, 1, 4, 5] : List Nat)), show ndL _ from (by decide : List.Nodup ([0, 1, 2, 3, 5, 6] : List Nat)), by rw [lva_247_79]; exact List.forall_mem_cons.mpr ⟨rfl, List.forall_mem_cons.mpr ⟨rfl, List.forall_mem_cons.mpr ⟨rfl, List.forall_mem_cons.mpr ⟨rfl, List.forall_mem_cons.mpr ⟨rfl, List.forall_mem_cons.mpr ⟨rfl, fun _ h => absurd h List.not_mem_nil⟩⟩⟩⟩⟩⟩⟩ h
      · replace h := h.2 c
        refine Pl.seg (pc' := 85) (ls' := [(6, .int w4), (2, .int (x2 + (1 : Int32))), (0, .ref 97), (1, .int x1), (3, .int x3), (4, .int x4), (5, .int x5)]) (st' := []) (σ' := σ3) hM 1 rfl ?_
        exact Pl.live (l' := [(0, .ref 97), (1, .int x1), (2, .int (x2 + (1 : Int32))), (3, .int x3), (4, .int x4), (5, .int x5)]) hM lv_247 ⟨show ndL _ from (by decide : List.Nodup ([6, 2, 0, 1, 3, 4, 5] : List Nat)), show ndL _ from (by decide : List.Nodup ([0, 1, 2, 3, 4, 5] : List Nat)), by rw [lva_247_85]; exact List.forall_mem_cons.mpr ⟨rfl, List.forall_mem_cons.mpr ⟨rfl, List.forall_mem_cons.mpr ⟨rfl, List.forall_mem_cons.mpr ⟨rfl, List.forall_mem_cons.mpr ⟨rfl, List.forall_mem_cons.mpr ⟨rfl, fun _ h => absurd h List.not_mem_nil⟩⟩⟩⟩⟩⟩⟩ h
    · replace h := h.1 c
      refine Pl.seg (pc' := 85) (ls' := [(0, .ref 97), (1, .int x1), (2, .int x2), (3, .int x3), (4, .int x4), (5, .int x5)]) (st' := []) (σ' := σ1) hM 1 rfl ?_
      exact Pl.live (l' := [(0, .ref 97), (1, .int x1), (2, .int x2), (3, .int x3), (4, .int x4), (5, .int x5)]) hM lv_247 ⟨show ndL _ from (by decide : List.Nodup ([0, 1, 2, 3, 4, 5] : List Nat)), show ndL _ from (by decide : List.Nodup ([0, 1, 2, 3, 4, 5] : List Nat)), by rw [lva_247_85]; exact List.forall_mem_cons.mpr ⟨rfl, List.forall_mem_cons.mpr ⟨rfl, List.forall_mem_cons.mpr ⟨rfl, List.forall_mem_cons.mpr ⟨rfl, List.forall_mem_cons.mpr ⟨rfl, List.forall_mem_cons.mpr ⟨rfl, fun _ h => absurd h List.not_mem_nil⟩⟩⟩⟩⟩⟩⟩ h
set_option maxRecDepth 100000 in
theorem p_247_79 {n d : Nat} {Q : Option Value → Sg → Prop} (σ : Sg) (x1 x2 x3 x5 x6 : Int32) (h : Pl PRG n d 247 85 [(0, .ref 97), (1, .int x1), (2, .int x2), (3, .int x3), (4, .int (x6 / (4 : Int32))), (5, .int x5)] [] σ Q) : Pl PRG (n + 1) d 247 79 [(0, .ref 97), (1, .int x1), (2, .int x2), (3, .int x3), (5, .int x5), (6, .int x6)] [] σ Q := by
  have hM : PRG[247]? = some M_247 := rfl
  refine Pl.sg1 (pc' := 85) (ls' := [(4, .int (x6 / (4 : Int32))), (0, .ref 97), (1, .int x1), (2, .int x2), (3, .int x3), (5, .int x5), (6, .int x6)]) (st' := []) (σ' := σ) hM 3 rfl ?_
  exact Pl.live (l' := [(0, .ref 97), (1, .int x1), (2, .int x2), (3, .int x3), (4, .int (x6 / (4 : Int32))), (5, .int x5)]) hM lv_247 ⟨show ndL _ from (by decide : List.Nodup ([4, 0, 1, 2, 3, 5, 6] : List Nat)), show ndL _ from (by decide : List.Nodup ([0, 1, 2, 3, 4, 5] : List Nat)), by rw [lva_247_85]; exact List.forall_mem_cons.mpr ⟨rfl, List.forall_mem_cons.mpr ⟨rfl, List.forall_mem_cons.mpr ⟨rfl, List.forall_mem_cons.mpr ⟨rfl, List.forall_mem_cons.mpr ⟨rfl, List.forall_mem_cons.mpr ⟨rfl, fun _ h => absurd h List.not_mem_nil⟩⟩⟩⟩⟩⟩⟩ h
set_option maxRecDepth 100000 in
theorem p_247_85 {n d : Nat} {Q : Option Value → Sg → Prop} (σ : Sg) (x1 x2 x3 x4 x5 : Int32) (h : Pl PRG n d 247 22 [(0, .ref 97), (1, .int x1), (2, .int x2), (3, .int x3), (4, .int x4), (5, .int (x5 + (1 : Int32)))] [] σ Q) : Pl PRG (n + 1) d 247 85 [(0, .ref 97), (1, .int x1), (2, .int x2), (3, .int x3), (4, .int x4), (5, .int x5)] [] σ Q := by
  have hM : PRG[247]? = some M_247 := rfl
  refine Pl.sg1 (pc' := 22) (ls' := [(5, .int (x5 + (1 : Int32))), (0, .ref 97), (1, .int x1), (2, .int x2), (3, .int x3), (4, .int x4)]) (st' := []) (σ' := σ) hM 1 rfl ?_
  exact Pl.live (l' := [(0, .ref 97), (1, .int x1), (2, .int x2), (3, .int x3), (4, .int x4), (5, .int (x5 + (1 : Int32)))]) hM lv_247 ⟨show ndL _ from (by decide : List.Nodup ([5, 0, 1, 2, 3, 4] : List Nat)), show ndL _ from (by decide : List.Nodup ([0, 1, 2, 3, 4, 5] : List Nat)), by rw [lva_247_22]; exact List.forall_mem_cons.mpr ⟨rfl, List.forall_mem_cons.mpr ⟨rfl, List.forall_mem_cons.mpr ⟨rfl, List.forall_mem_cons.mpr ⟨rfl, List.forall_mem_cons.mpr ⟨rfl, List.forall_mem_cons.mpr ⟨rfl, fun _ h => absurd h List.not_mem_nil⟩⟩⟩⟩⟩⟩⟩ h
def LV_321 : List (Nat × List Nat) := [(0, [0, 1]), (1, [0, 1]), (2, [0, 1]), (3, [0, 1]), (6, [0, 1]), (9, [0, 1]), (10, [0, 1]), (13, [0, 1]), (16, []), (17, []), (18, [0, 1]), (19, [0, 1]), (22, [0, 1]), (23, [0, 1]), (24, [0, 1]), (25, [0, 1]), (26, [0, 1]), (29, [0, 1]), (30, [0, 1]), (31, [0, 1]), (34, [0, 1]), (35, [0, 1]), (36, [0, 1]), (39, [0, 1]), (40, [0, 1]), (41, [0, 1]), (44, [0, 1]), (45, [0, 1]), (46, [0, 1]), (47, [0, 1, 2]), (48, [0, 1, 2]), (49, [0, 1, 2]), (52, [0, 1, 2]), (53, [0, 1, 2]), (56, [0, 1, 2]), (57, [0, 1, 2]), (58, [0, 1, 2]), (59, [0, 1, 2]), (60, [0, 1, 2]), (61, [0, 1, 2]), (62, [0, 1, 2]), (65, [0, 1, 2]), (66, [0, 1, 2]), (67, [0, 1, 2]), (68, [0, 1, 2]), (71, [0, 1, 2]), (74, [0, 1]), (75, [0, 1]), (76, [0, 1, 2]), (77, [0, 1, 2]), (78, [0, 1, 2]), (81, [0, 1, 2]), (84, [0, 1, 2]), (85, [0, 1, 2]), (88, [0, 1, 2]), (90, [0, 1, 2]), (91, [0, 1, 2]), (92, [0, 1, 2]), (93, [0, 1, 2]), (94, [0, 1, 2]), (95, [0, 1, 2]), (98, [0, 1, 2]), (99, [0, 1, 2]), (100, [0, 1, 2]), (101, [0, 1, 2]), (102, [0, 1, 2]), (105, [0, 1, 2]), (107, [0, 1, 2]), (108, [0, 1, 2]), (109, [0, 1, 2]), (110, [0, 1, 2]), (111, [0, 1, 2]), (112, [0, 1, 2]), (115, [0, 1, 2]), (116, [0, 1, 2]), (117, [0, 1, 2]), (118, [0, 1, 2]), (121, [0, 1, 2]), (124, []), (125, [])]
set_option maxRecDepth 100000 in
theorem lv_321 : chkLv M_321 LV_321 = true := by decide +kernel
set_option maxRecDepth 100000 in
theorem lva_321_16 : lvA LV_321 16 = [] := by decide +kernel
set_option maxRecDepth 100000 in
theorem lva_321_47 : lvA LV_321 47 = [0, 1, 2] := by decide +kernel
set_option maxRecDepth 100000 in
theorem lva_321_76 : lvA LV_321 76 = [0, 1, 2] := by decide +kernel
set_option maxRecDepth 100000 in
theorem p_321_0 {n d : Nat} {Q : Option Value → Sg → Prop} (σ : Sg) (x1 : Int32) (h : (∀ w2 σ1, RCx PRG n 195 [.int x1, .int (0 : Int32), .int (1 : Int32)] σ (some (.int w2)) σ1 → (w2 = 0 ∨ w2 = 1) → ((w2 = 0 → Pl PRG n d 321 16 [] [] σ1 Q) ∧ (¬ w2 = 0 → (((σ1.1 97 45) = 0 → Pl PRG n d 321 16 [] [] σ1 Q) ∧ (¬ (σ1.1 97 45) = 0 → (inR x1 2 = true → (inR x1 2 = true → (inR x1 2 = true → Pl PRG n d 321 47 [(0, .ref 97), (1, .int x1), (2, .int (0 : Int32))] [] (s1 (s1 (s1 σ1 152 x1.toNatClampNeg (vp_nar .boolean (1 : Int32))) 154 x1.toNatClampNeg (σ1.1 97 47)) 155 x1.toNatClampNeg (σ1.1 97 48)) Q))))))))) : Pl PRG (n + 1) d 321 0 [(0, .ref 97), (1, .int x1)] [] σ Q := by
  have hM : PRG[321]? = some M_321 := rfl
  refine Pl.sg1 (pc' := 3) (ls' := [(0, .ref 97), (1, .int x1)]) (st' := [.int (1 : Int32), .int (0 : Int32), .int x1]) (σ' := σ) hM 2 rfl ?_
  refine Pl.weak (Pl.cZ hM rfl rfl (by decide) (Mj := M_195) rfl rfl (fun w2 σ1 hw hz => ?_))
  replace h := h w2 σ1 hw hz
  refine Pl.br (c := w2 = 0) (a := 16) (b := 9) (ls' := [(0, .ref 97), (1, .int x1)]) (st' := []) (σ' := σ1) hM 1 rfl (fun c => ?_) (fun c => ?_)
  · replace h := h.1 c
    exact Pl.live (l' := []) hM lv_321 ⟨show ndL _ from (by decide : List.Nodup ([0, 1] : List Nat)), show ndL _ from (by decide : List.Nodup ([] : List Nat)), by rw [lva_321_16]; exact fun _ h => absurd h List.not_mem_nil⟩ h
  · replace h := h.2 c
    refine Pl.brN (c := (σ1.1 97 45) = 0) (a := 18) (b := 16) (ls' := [(0, .ref 97), (1, .int x1)]) (st' := []) (σ' := σ1) hM 3 rfl (fun c => ?_) (fun c => ?_)
    · replace h := h.2 c
      refine Pl.seg (pc' := 24) (ls' := [(0, .ref 97), (1, .int x1)]) (st' := [.int (1 : Int32), .int x1, .ref 152]) (σ' := σ1) hM 4 rfl ?_
      refine Pl.weak (Pl.bast3 hM rfl rfl (fun hi => ?_))
      replace h := h hi
      refine Pl.seg (pc' := 34) (ls' := [(0, .ref 97), (1, .int x1)]) (st' := [.int (σ1.1 97 47), .int x1, .ref 154]) (σ' := (s1 σ1 152 x1.toNatClampNeg (vp_nar .boolean (1 : Int32)))) hM 5 rfl ?_
      refine Pl.weak (Pl.iast hM rfl rfl (fun hi => ?_))
      replace h := h hi
      refine Pl.seg (pc' := 44) (ls' := [(0, .ref 97), (1, .int x1)]) (st' := [.int (σ1.1 97 48), .int x1, .ref 155]) (σ' := (s1 (s1 σ1 152 x1.toNatClampNeg (vp_nar .boolean (1 : Int32))) 154 x1.toNatClampNeg (σ1.1 97 47))) hM 5 rfl ?_
      refine Pl.weak (Pl.iast hM rfl rfl (fun hi => ?_))
      replace h := h hi
      refine Pl.seg (pc' := 47) (ls' := [(2, .int (0 : Int32)), (0, .ref 97), (1, .int x1)]) (st' := []) (σ' := (s1 (s1 (s1 σ1 152 x1.toNatClampNeg (vp_nar .boolean (1 : Int32))) 154 x1.toNatClampNeg (σ1.1 97 47)) 155 x1.toNatClampNeg (σ1.1 97 48))) hM 2 rfl ?_
      exact Pl.live (l' := [(0, .ref 97), (1, .int x1), (2, .int (0 : Int32))]) hM lv_321 ⟨show ndL _ from (by decide : List.Nodup ([2, 0, 1] : List Nat)), show ndL _ from (by decide : List.Nodup ([0, 1, 2] : List Nat)), by rw [lva_321_47]; exact List.forall_mem_cons.mpr ⟨rfl, List.forall_mem_cons.mpr ⟨rfl, List.forall_mem_cons.mpr ⟨rfl, fun _ h => absurd h List.not_mem_nil⟩⟩⟩⟩ h
    · replace h := h.1 c
      exact Pl.live (l' := []) hM lv_321 ⟨show ndL _ from (by decide : List.Nodup ([0, 1] : List Nat)), show ndL _ from (by decide : List.Nodup ([] : List Nat)), by rw [lva_321_16]; exact fun _ h => absurd h List.not_mem_nil⟩ h
set_option maxRecDepth 100000 in
theorem p_321_16 {n d : Nat} {Q : Option Value → Sg → Prop} (σ : Sg) (h : Q (some (.int (0 : Int32))) σ) : Pl PRG (n + 1) d 321 16 [] [] σ Q := by
  have hM : PRG[321]? = some M_321 := rfl
  refine Pl.sg1 (pc' := 17) (ls' := []) (st' := [.int (0 : Int32)]) (σ' := σ) hM 0 rfl ?_
  refine Pl.weak (Pl.ret hM rfl rfl h)
set_option maxRecDepth 100000 in
theorem p_321_47 {n d : Nat} {Q : Option Value → Sg → Prop} (σ : Sg) (x1 x2 : Int32) (h : (((4 : Int32) ≤ x2 → Pl PRG n d 321 76 [(0, .ref 97), (1, .int x1), (2, .int (0 : Int32))] [] σ Q) ∧ (¬ (4 : Int32) ≤ x2 → (inR x2 4 = true → (inR (((4 : Int32) * x1) + x2) 8 = true → Pl PRG n d 321 47 [(0, .ref 97), (1, .int x1), (2, .int (x2 + (1 : Int32)))] [] (s1 σ 153 (((4 : Int32) * x1) + x2).toNatClampNeg (σ.1 125 x2.toNatClampNeg)) Q))))) : Pl PRG (n + 1) d 321 47 [(0, .ref 97), (1, .int x1), (2, .int x2)] [] σ Q := by
  have hM : PRG[321]? = some M_321 := rfl
  refine Pl.br1 (c := (4 : Int32) ≤ x2) (a := 74) (b := 52) (ls' := [(0, .ref 97), (1, .int x1), (2, .int x2)]) (st' := []) (σ' := σ) hM 2 rfl (fun c => ?_) (fun c => ?_)
  · replace h := h.1 c
    refine Pl.seg (pc' := 76) (ls' := [(2, .int (0 : Int32)), (0, .ref 97), (1, .int x1)]) (st' := []) (σ' := σ) hM 2 rfl ?_
    exact Pl.live (l' := [(0, .ref 97), (1, .int x1), (2, .int (0 : Int32))]) hM lv_321 ⟨show ndL _ from (by decide : List.Nodup ([2, 0, 1] : List Nat)), show ndL _ from (by decide : List.Nodup ([0, 1, 2] : List Nat)), by rw [lva_321_76]; exact List.forall_mem_cons.mpr ⟨rfl, List.forall_mem_cons.mpr ⟨rfl, List.forall_mem_cons.mpr ⟨rfl, fun _ h => absurd h List.not_mem_nil⟩⟩⟩⟩ h
  · replace h := h.2 c
    refine Pl.seg (pc' := 66) (ls' := [(0, .ref 97), (1, .int x1), (2, .int x2)]) (st' := [.int x2, .ref 125, .int (((4 : Int32) * x1) + x2), .ref 153]) (σ' := σ) hM 10 rfl ?_
    refine Pl.weak (Pl.iald hM rfl rfl (fun hi => ?_))
    replace h := h hi
    refine Pl.weak (Pl.iast hM rfl rfl (fun hi => ?_))
    replace h := h hi
    refine Pl.seg (pc' := 47) (ls' := [(2, .int (x2 + (1 : Int32))), (0, .ref 97), (1, .int x1)]) (st' := []) (σ' := (s1 σ 153 (((4 : Int32) * x1) + x2).toNatClampNeg (σ.1 125 x2.toNatClampNeg))) hM 2 rfl ?_
    exact Pl.live (l' := [(0, .ref 97), (1, .int x1), (2, .int (x2 + (1 : Int32)))]) hM lv_321 ⟨show ndL _ from (by decide : List.Nodup ([2, 0, 1] : List Nat)), show ndL _ from (by decide : List.Nodup ([0, 1, 2] : List Nat)), by rw [lva_321_47]; exact List.forall_mem_cons.mpr ⟨rfl, List.forall_mem_cons.mpr ⟨rfl, List.forall_mem_cons.mpr ⟨rfl, fun _ h => absurd h List.not_mem_nil⟩⟩⟩⟩ h
set_option maxRecDepth 100000 in
theorem p_321_76 {n d : Nat} {Q : Option Value → Sg → Prop} (σ : Sg) (x1 x2 : Int32) (h : (((σ.1 97 48) ≤ x2 → Q (some (.int (1 : Int32))) σ) ∧ (¬ (σ.1 97 48) ≤ x2 → (inR x2 16 = true → (inR (((16 : Int32) * x1) + x2) 32 = true → (inR x2 16 = true → (inR (((16 : Int32) * x1) + x2) 32 = true → Pl PRG n d 321 76 [(0, .ref 97), (1, .int x1), (2, .int (x2 + (1 : Int32)))] [] (s1 (s1 σ 156 (((16 : Int32) * x1) + x2).toNatClampNeg (σ.1 126 x2.toNatClampNeg)) 157 (((16 : Int32) * x1) + x2).toNatClampNeg (σ.1 127 x2.toNatClampNeg)) Q))))))) : Pl PRG (n + 1) d 321 76 [(0, .ref 97), (1, .int x1), (2, .int x2)] [] σ Q := by
  have hM : PRG[321]? = some M_321 := rfl
  refine Pl.br1 (c := (σ.1 97 48) ≤ x2) (a := 124) (b := 84) (ls' := [(0, .ref 97), (1, .int x1), (2, .int x2)]) (st' := []) (σ' := σ) hM 3 rfl (fun c => ?_) (fun c => ?_)
  · replace h := h.1 c
    refine Pl.seg (pc' := 125) (ls' := [(0, .ref 97), (1, .int x1), (2, .int x2)]) (st' := [.int (1 : Int32)]) (σ' := σ) hM 1 rfl ?_
    refine Pl.weak (Pl.ret hM rfl rfl h)
  · replace h := h.2 c
    refine Pl.seg (pc' := 99) (ls' := [(0, .ref 97), (1, .int x1), (2, .int x2)]) (st' := [.int x2, .ref 126, .int (((16 : Int32) * x1) + x2), .ref 156]) (σ' := σ) hM 10 rfl ?_
    refine Pl.weak (Pl.iald hM rfl rfl (fun hi => ?_))
    replace h := h hi
    refine Pl.weak (Pl.iast hM rfl rfl (fun hi => ?_))
    replace h := h hi
    refine Pl.seg (pc' := 116) (ls' := [(0, .ref 97), (1, .int x1), (2, .int x2)]) (st' := [.int x2, .ref 127, .int (((16 : Int32) * x1) + x2), .ref 157]) (σ' := (s1 σ 156 (((16 : Int32) * x1) + x2).toNatClampNeg (σ.1 126 x2.toNatClampNeg))) hM 10 rfl ?_
    refine Pl.weak (Pl.iald hM rfl rfl (fun hi => ?_))
    replace h := h hi
    refine Pl.weak (Pl.iast hM rfl rfl (fun hi => ?_))
    replace h := h hi
    refine Pl.seg (pc' := 76) (ls' := [(2, .int (x2 + (1 : Int32))), (0, .ref 97), (1, .int x1)]) (st' := []) (σ' := (s1 (s1 σ 156 (((16 : Int32) * x1) + x2).toNatClampNeg (σ.1 126 x2.toNatClampNeg)) 157 (((16 : Int32) * x1) + x2).toNatClampNeg (σ.1 127 x2.toNatClampNeg))) hM 2 rfl ?_
    exact Pl.live (l' := [(0, .ref 97), (1, .int x1), (2, .int (x2 + (1 : Int32)))]) hM lv_321 ⟨show ndL _ from (by decide : List.Nodup ([2, 0, 1] : List Nat)), show ndL _ from (by decide : List.Nodup ([0, 1, 2] : List Nat)), by rw [lva_321_76]; exact List.forall_mem_cons.mpr ⟨rfl, List.forall_mem_cons.mpr ⟨rfl, List.forall_mem_cons.mpr ⟨rfl, fun _ h => absurd h List.not_mem_nil⟩⟩⟩⟩ h
def LV_322 : List (Nat × List Nat) := [(0, [0, 1]), (1, [0, 1]), (2, [0, 1]), (3, [0, 1]), (6, [0, 1]), (9, [0, 1]), (10, [0, 1]), (13, [0, 1]), (14, [0, 1]), (15, [0, 1]), (18, []), (19, []), (20, [0, 1]), (21, [0, 1]), (22, [0, 1]), (25, [0, 1]), (26, [0, 1]), (27, [0, 1]), (30, [0, 1]), (31, [0, 1]), (32, [0, 1]), (35, [0, 1]), (36, [0, 1]), (37, [0, 1]), (40, [0, 1]), (41, [0, 1]), (42, [0, 1]), (45, [0, 1]), (46, [0, 1]), (47, [0, 1, 2]), (48, [0, 1, 2]), (49, [0, 1, 2]), (52, [0, 1, 2]), (53, [0, 1, 2]), (56, [0, 1, 2]), (57, [0, 1, 2]), (58, [0, 1, 2]), (61, [0, 1, 2]), (62, [0, 1, 2]), (63, [0, 1, 2]), (64, [0, 1, 2]), (65, [0, 1, 2]), (66, [0, 1, 2]), (67, [0, 1, 2]), (68, [0, 1, 2]), (71, [0, 1, 2]), (74, [0, 1]), (75, [0, 1]), (76, [0, 1, 2]), (77, [0, 1, 2]), (78, [0, 1, 2]), (81, [0, 1, 2]), (84, [0, 1, 2]), (85, [0, 1, 2]), (88, [0, 1, 2]), (89, [0, 1, 2]), (90, [0, 1, 2]), (93, [0, 1, 2]), (95, [0, 1, 2]), (96, [0, 1, 2]), (97, [0, 1, 2]), (98, [0, 1, 2]), (99, [0, 1, 2]), (100, [0, 1, 2]), (101, [0, 1, 2]), (102, [0, 1, 2]), (105, [0, 1, 2]), (106, [0, 1, 2]), (107, [0, 1, 2]), (110, [0, 1, 2]), (112, [0, 1, 2]), (113, [0, 1, 2]), (114, [0, 1, 2]), (115, [0, 1, 2]), (116, [0, 1, 2]), (117, [0, 1, 2]), (118, [0, 1, 2]), (121, [0, 1, 2]), (124, []), (125, [])]
set_option maxRecDepth 100000 in
theorem lv_322 : chkLv M_322 LV_322 = true := by decide +kernel
set_option maxRecDepth 100000 in
theorem lva_322_18 : lvA LV_322 18 = [] := by decide +kernel
set_option maxRecDepth 100000 in
theorem lva_322_47 : lvA LV_322 47 = [0, 1, 2] := by decide +kernel
set_option maxRecDepth 100000 in
theorem lva_322_76 : lvA LV_322 76 = [0, 1, 2] := by decide +kernel
set_option maxRecDepth 100000 in
theorem p_322_0 {n d : Nat} {Q : Option Value → Sg → Prop} (σ : Sg) (x1 : Int32) (h : (∀ w2 σ1, RCx PRG n 195 [.int x1, .int (0 : Int32), .int (1 : Int32)] σ (some (.int w2)) σ1 → (w2 = 0 ∨ w2 = 1) → ((w2 = 0 → Pl PRG n d 322 18 [] [] σ1 Q) ∧ (¬ w2 = 0 → (inR x1 2 = true → (((σ1.1 152 x1.toNatClampNeg) = 0 → Pl PRG n d 322 18 [] [] σ1 Q) ∧ (¬ (σ1.1 152 x1.toNatClampNeg) = 0 → (inR x1 2 = true → (inR x1 2 = true → Pl PRG n d 322 47 [(0, .ref 97), (1, .int x1), (2, .int (0 : Int32))] [] (s1 (s1 (s1 σ1 97 45 (1 : Int32)) 97 47 (σ1.1 154 x1.toNatClampNeg)) 97 48 (σ1.1 155 x1.toNatClampNeg)) Q))))))))) : Pl PRG (n + 1) d 322 0 [(0, .ref 97), (1, .int x1)] [] σ Q := by
  have hM : PRG[322]? = some M_322 := rfl
  refine Pl.sg1 (pc' := 3) (ls' := [(0, .ref 97), (1, .int x1)]) (st' := [.int (1 : Int32), .int (0 : Int32), .int x1]) (σ' := σ) hM 2 rfl ?_
  refine Pl.weak (Pl.cZ hM rfl rfl (by decide) (Mj := M_195) rfl rfl (fun w2 σ1 hw hz => ?_))
  replace h := h w2 σ1 hw hz
  refine Pl.br (c := w2 = 0) (a := 18) (b := 9) (ls' := [(0, .ref 97), (1, .int x1)]) (st' := []) (σ' := σ1) hM 1 rfl (fun c => ?_) (fun c => ?_)
  · replace h := h.1 c
    exact Pl.live (l' := []) hM lv_322 ⟨show ndL _ from (by decide : List.Nodup ([0, 1] : List Nat)), show ndL _ from (by decide : List.Nodup ([] : List Nat)), by rw [lva_322_18]; exact fun _ h => absurd h List.not_mem_nil⟩ h
  · replace h := h.2 c
    refine Pl.seg (pc' := 14) (ls' := [(0, .ref 97), (1, .int x1)]) (st' := [.int x1, .ref 152]) (σ' := σ1) hM 3 rfl ?_
    refine Pl.weak (Pl.bald3 hM rfl rfl (fun hi => ?_))
    replace h := h hi
    refine Pl.brN (c := (σ1.1 152 x1.toNatClampNeg) = 0) (a := 20) (b := 18) (ls' := [(0, .ref 97), (1, .int x1)]) (st' := []) (σ' := σ1) hM 1 rfl (fun c => ?_) (fun c => ?_)
    · replace h := h.2 c
      refine Pl.seg (pc' := 31) (ls' := [(0, .ref 97), (1, .int x1)]) (st' := [.int x1, .ref 154, .ref 97]) (σ' := (s1 σ1 97 45 (1 : Int32))) hM 7 rfl ?_
      refine Pl.weak (Pl.iald hM rfl rfl (fun hi => ?_))
      replace h := h hi
      refine Pl.seg (pc' := 41) (ls' := [(0, .ref 97), (1, .int x1)]) (st' := [.int x1, .ref 155, .ref 97]) (σ' := (s1 (s1 σ1 97 45 (1 : Int32)) 97 47 (σ1.1 154 x1.toNatClampNeg))) hM 5 rfl ?_
      refine Pl.weak (Pl.iald hM rfl rfl (fun hi => ?_))
      replace h := h hi
      refine Pl.seg (pc' := 47) (ls' := [(2, .int (0 : Int32)), (0, .ref 97), (1, .int x1)]) (st' := []) (σ' := (s1 (s1 (s1 σ1 97 45 (1 : Int32)) 97 47 (σ1.1 154 x1.toNatClampNeg)) 97 48 (σ1.1 155 x1.toNatClampNeg))) hM 3 rfl ?_
      exact Pl.live (l' := [(0, .ref 97), (1, .int x1), (2, .int (0 : Int32))]) hM lv_322 ⟨show ndL _ from (by decide : List.Nodup ([2, 0, 1] : List Nat)), show ndL _ from (by decide : List.Nodup ([0, 1, 2] : List Nat)), by rw [lva_322_47]; exact List.forall_mem_cons.mpr ⟨rfl, List.forall_mem_cons.mpr ⟨rfl, List.forall_mem_cons.mpr ⟨rfl, fun _ h => absurd h List.not_mem_nil⟩⟩⟩⟩ h
    · replace h := h.1 c
      exact Pl.live (l' := []) hM lv_322 ⟨show ndL _ from (by decide : List.Nodup ([0, 1] : List Nat)), show ndL _ from (by decide : List.Nodup ([] : List Nat)), by rw [lva_322_18]; exact fun _ h => absurd h List.not_mem_nil⟩ h
set_option maxRecDepth 100000 in
theorem p_322_18 {n d : Nat} {Q : Option Value → Sg → Prop} (σ : Sg) (h : Q (some (.int (0 : Int32))) σ) : Pl PRG (n + 1) d 322 18 [] [] σ Q := by
  have hM : PRG[322]? = some M_322 := rfl
  refine Pl.sg1 (pc' := 19) (ls' := []) (st' := [.int (0 : Int32)]) (σ' := σ) hM 0 rfl ?_
  refine Pl.weak (Pl.ret hM rfl rfl h)
set_option maxRecDepth 100000 in
theorem p_322_47 {n d : Nat} {Q : Option Value → Sg → Prop} (σ : Sg) (x1 x2 : Int32) (h : (((4 : Int32) ≤ x2 → Pl PRG n d 322 76 [(0, .ref 97), (1, .int x1), (2, .int (0 : Int32))] [] σ Q) ∧ (¬ (4 : Int32) ≤ x2 → (inR (((4 : Int32) * x1) + x2) 8 = true → (inR x2 4 = true → Pl PRG n d 322 47 [(0, .ref 97), (1, .int x1), (2, .int (x2 + (1 : Int32)))] [] (s1 σ 125 x2.toNatClampNeg (σ.1 153 (((4 : Int32) * x1) + x2).toNatClampNeg)) Q))))) : Pl PRG (n + 1) d 322 47 [(0, .ref 97), (1, .int x1), (2, .int x2)] [] σ Q := by
  have hM : PRG[322]? = some M_322 := rfl
  refine Pl.br1 (c := (4 : Int32) ≤ x2) (a := 74) (b := 52) (ls' := [(0, .ref 97), (1, .int x1), (2, .int x2)]) (st' := []) (σ' := σ) hM 2 rfl (fun c => ?_) (fun c => ?_)
  · replace h := h.1 c
    refine Pl.seg (pc' := 76) (ls' := [(2, .int (0 : Int32)), (0, .ref 97), (1, .int x1)]) (st' := []) (σ' := σ) hM 2 rfl ?_
    exact Pl.live (l' := [(0, .ref 97), (1, .int x1), (2, .int (0 : Int32))]) hM lv_322 ⟨show ndL _ from (by decide : List.Nodup ([2, 0, 1] : List Nat)), show ndL _ from (by decide : List.Nodup ([0, 1, 2] : List Nat)), by rw [lva_322_76]; exact List.forall_mem_cons.mpr ⟨rfl, List.forall_mem_cons.mpr ⟨rfl, List.forall_mem_cons.mpr ⟨rfl, fun _ h => absurd h List.not_mem_nil⟩⟩⟩⟩ h
  · replace h := h.2 c
    refine Pl.seg (pc' := 66) (ls' := [(0, .ref 97), (1, .int x1), (2, .int x2)]) (st' := [.int (((4 : Int32) * x1) + x2), .ref 153, .int x2, .ref 125]) (σ' := σ) hM 10 rfl ?_
    refine Pl.weak (Pl.iald hM rfl rfl (fun hi => ?_))
    replace h := h hi
    refine Pl.weak (Pl.iast hM rfl rfl (fun hi => ?_))
    replace h := h hi
    refine Pl.seg (pc' := 47) (ls' := [(2, .int (x2 + (1 : Int32))), (0, .ref 97), (1, .int x1)]) (st' := []) (σ' := (s1 σ 125 x2.toNatClampNeg (σ.1 153 (((4 : Int32) * x1) + x2).toNatClampNeg))) hM 2 rfl ?_
    exact Pl.live (l' := [(0, .ref 97), (1, .int x1), (2, .int (x2 + (1 : Int32)))]) hM lv_322 ⟨show ndL _ from (by decide : List.Nodup ([2, 0, 1] : List Nat)), show ndL _ from (by decide : List.Nodup ([0, 1, 2] : List Nat)), by rw [lva_322_47]; exact List.forall_mem_cons.mpr ⟨rfl, List.forall_mem_cons.mpr ⟨rfl, List.forall_mem_cons.mpr ⟨rfl, fun _ h => absurd h List.not_mem_nil⟩⟩⟩⟩ h
set_option maxRecDepth 100000 in
theorem p_322_76 {n d : Nat} {Q : Option Value → Sg → Prop} (σ : Sg) (x1 x2 : Int32) (h : (((σ.1 97 48) ≤ x2 → Q (some (.int (1 : Int32))) σ) ∧ (¬ (σ.1 97 48) ≤ x2 → (inR (((16 : Int32) * x1) + x2) 32 = true → (inR x2 16 = true → (inR (((16 : Int32) * x1) + x2) 32 = true → (inR x2 16 = true → Pl PRG n d 322 76 [(0, .ref 97), (1, .int x1), (2, .int (x2 + (1 : Int32)))] [] (s1 (s1 σ 126 x2.toNatClampNeg (σ.1 156 (((16 : Int32) * x1) + x2).toNatClampNeg)) 127 x2.toNatClampNeg (σ.1 157 (((16 : Int32) * x1) + x2).toNatClampNeg)) Q))))))) : Pl PRG (n + 1) d 322 76 [(0, .ref 97), (1, .int x1), (2, .int x2)] [] σ Q := by
  have hM : PRG[322]? = some M_322 := rfl
  refine Pl.br1 (c := (σ.1 97 48) ≤ x2) (a := 124) (b := 84) (ls' := [(0, .ref 97), (1, .int x1), (2, .int x2)]) (st' := []) (σ' := σ) hM 3 rfl (fun c => ?_) (fun c => ?_)
  · replace h := h.1 c
    refine Pl.seg (pc' := 125) (ls' := [(0, .ref 97), (1, .int x1), (2, .int x2)]) (st' := [.int (1 : Int32)]) (σ' := σ) hM 1 rfl ?_
    refine Pl.weak (Pl.ret hM rfl rfl h)
  · replace h := h.2 c
    refine Pl.seg (pc' := 99) (ls' := [(0, .ref 97), (1, .int x1), (2, .int x2)]) (st' := [.int (((16 : Int32) * x1) + x2), .ref 156, .int x2, .ref 126]) (σ' := σ) hM 10 rfl ?_
    refine Pl.weak (Pl.iald hM rfl rfl (fun hi => ?_))
    replace h := h hi
    refine Pl.weak (Pl.iast hM rfl rfl (fun hi => ?_))
    replace h := h hi
    refine Pl.seg (pc' := 116) (ls' := [(0, .ref 97), (1, .int x1), (2, .int x2)]) (st' := [.int (((16 : Int32) * x1) + x2), .ref 157, .int x2, .ref 127]) (σ' := (s1 σ 126 x2.toNatClampNeg (σ.1 156 (((16 : Int32) * x1) + x2).toNatClampNeg))) hM 10 rfl ?_
    refine Pl.weak (Pl.iald hM rfl rfl (fun hi => ?_))
    replace h := h hi
    refine Pl.weak (Pl.iast hM rfl rfl (fun hi => ?_))
    replace h := h hi
    refine Pl.seg (pc' := 76) (ls' := [(2, .int (x2 + (1 : Int32))), (0, .ref 97), (1, .int x1)]) (st' := []) (σ' := (s1 (s1 σ 126 x2.toNatClampNeg (σ.1 156 (((16 : Int32) * x1) + x2).toNatClampNeg)) 127 x2.toNatClampNeg (σ.1 157 (((16 : Int32) * x1) + x2).toNatClampNeg))) hM 2 rfl ?_
    exact Pl.live (l' := [(0, .ref 97), (1, .int x1), (2, .int (x2 + (1 : Int32)))]) hM lv_322 ⟨show ndL _ from (by decide : List.Nodup ([2, 0, 1] : List Nat)), show ndL _ from (by decide : List.Nodup ([0, 1, 2] : List Nat)), by rw [lva_322_76]; exact List.forall_mem_cons.mpr ⟨rfl, List.forall_mem_cons.mpr ⟨rfl, List.forall_mem_cons.mpr ⟨rfl, fun _ h => absurd h List.not_mem_nil⟩⟩⟩⟩ h
set_option maxRecDepth 100000 in
theorem p_323_0 {n d : Nat} {Q : Option Value → Sg → Prop} (σ : Sg) (x1 : Int32) (h : ((x1.toInt < 0 ∨ 8 < x1.toInt → (∀ w2 σ1, RCx PRG n 313 [.ref 97, .int (x1 - (10 : Int32))] σ (some (.int w2)) σ1 → (w2 = 0 ∨ w2 = 1) → ((w2 = 0 → Q (some (.int (-1 : Int32))) σ1) ∧ (¬ w2 = 0 → (inR ((((6 : Int32) * (σ1.1 97 18)) + x1) - (10 : Int32)) 12 = true → (inR ((((6 : Int32) * (σ1.1 97 18)) + x1) - (10 : Int32)) 12 = true → Q (some (.int (((10 : Int32) * (σ1.1 110 ((((6 : Int32) * (σ1.1 97 18)) + x1) - (10 : Int32)).toNatClampNeg)) + (σ1.1 111 ((((6 : Int32) * (σ1.1 97 18)) + x1) - (10 : Int32)).toNatClampNeg)))) σ1)))))) ∧ (x1.toInt = 0 → (inR (σ.1 97 18) 2 = true → Q (some (.int (σ.1 106 (σ.1 97 18).toNatClampNeg))) σ)) ∧ (x1.toInt = 1 → (inR (σ.1 97 18) 2 = true → Q (some (.int (σ.1 107 (σ.1 97 18).toNatClampNeg))) σ)) ∧ (x1.toInt = 2 → (∀ w4 σ3, RCx PRG n 211 [.ref 97] σ (some (.int w4)) σ3 → Q (some (.int w4)) σ3)) ∧ (x1.toInt = 3 → (∀ w6 σ5, RCx PRG n 214 [.ref 97] σ (some (.int w6)) σ5 → ((w6 = (-1 : Int32) → Q (some (.int (-2 : Int32))) σ5) ∧ (¬ w6 = (-1 : Int32) → (∀ w8 σ7, RCx PRG n 214 [.ref 97] σ5 (some (.int w8)) σ7 → Q (some (.int w8)) σ7))))) ∧ (x1.toInt = 4 → (inR (σ.1 97 18) 2 = true → Q (some (.int (σ.1 109 (σ.1 97 18).toNatClampNeg))) σ)) ∧ (x1.toInt = 5 → (((σ.1 97 45) = 0 → Q (some (.int (-2 : Int32))) σ) ∧ (¬ (σ.1 97 45) = 0 → Q (some (.int (σ.1 97 48))) σ))) ∧ (x1.toInt = 6 → Q (some (.int (σ.1 97 86))) σ) ∧ (x1.toInt = 7 → Q (some (.int (σ.1 97 2))) σ) ∧ (x1.toInt = 8 → (((σ.1 152 0) = 0 → (((σ.1 152 1) = 0 → Q (some (.int ((0 : Int32) + (0 : Int32)))) σ) ∧ (¬ (σ.1 152 1) = 0 → Q (some (.int ((0 : Int32) + (1 : Int32)))) σ))) ∧ (¬ (σ.1 152 0) = 0 → (((σ.1 152 1) = 0 → Q (some (.int ((1 : Int32) + (0 : Int32)))) σ) ∧ (¬ (σ.1 152 1) = 0 → Q (some (.int ((1 : Int32) + (1 : Int32)))) σ))))))) : Pl PRG (n + 1) d 323 0 [(0, .ref 97), (1, .int x1)] [] σ Q := by
  have hM : PRG[323]? = some M_323 := rfl
  refine Pl.sg1 (pc' := 1) (ls' := [(0, .ref 97), (1, .int x1)]) (st' := [.int x1]) (σ' := σ) hM 0 rfl ?_
  refine Pl.weak (Pl.tsw hM rfl (fun c => ?_) (fun j o c ho => ?_))
  · replace h := h.1 c
    show Pl PRG n d 323 162 [(0, .ref 97), (1, .int x1)] [] σ Q
    refine Pl.seg (pc' := 167) (ls' := [(0, .ref 97), (1, .int x1)]) (st' := [.int (x1 - (10 : Int32)), .ref 97]) (σ' := σ) hM 4 rfl ?_
    refine Pl.weak (Pl.cZ hM rfl rfl (by decide) (Mj := M_313) rfl rfl (fun w2 σ1 hw hz => ?_))
    replace h := h w2 σ1 hw hz
    refine Pl.br (c := w2 = 0) (a := 214) (b := 173) (ls' := [(0, .ref 97), (1, .int x1)]) (st' := []) (σ' := σ1) hM 1 rfl (fun c => ?_) (fun c => ?_)
    · replace h := h.1 c
      refine Pl.seg (pc' := 215) (ls' := [(0, .ref 97), (1, .int x1)]) (st' := [.int (-1 : Int32)]) (σ' := σ1) hM 1 rfl ?_
      refine Pl.weak (Pl.ret hM rfl rfl h)
    · replace h := h.2 c
      refine Pl.seg (pc' := 191) (ls' := [(0, .ref 97), (1, .int x1)]) (st' := [.int ((((6 : Int32) * (σ1.1 97 18)) + x1) - (10 : Int32)), .ref 110, .int (10 : Int32)]) (σ' := σ1) hM 11 rfl ?_
      refine Pl.weak (Pl.iald hM rfl rfl (fun hi => ?_))
      replace h := h hi
      refine Pl.seg (pc' := 209) (ls' := [(0, .ref 97), (1, .int x1)]) (st' := [.int ((((6 : Int32) * (σ1.1 97 18)) + x1) - (10 : Int32)), .ref 111, .int ((10 : Int32) * (σ1.1 110 ((((6 : Int32) * (σ1.1 97 18)) + x1) - (10 : Int32)).toNatClampNeg))]) (σ' := σ1) hM 11 rfl ?_
      refine Pl.weak (Pl.iald hM rfl rfl (fun hi => ?_))
      replace h := h hi
      refine Pl.seg (pc' := 215) (ls' := [(0, .ref 97), (1, .int x1)]) (st' := [.int (((10 : Int32) * (σ1.1 110 ((((6 : Int32) * (σ1.1 97 18)) + x1) - (10 : Int32)).toNatClampNeg)) + (σ1.1 111 ((((6 : Int32) * (σ1.1 97 18)) + x1) - (10 : Int32)).toNatClampNeg))]) (σ' := σ1) hM 2 rfl ?_
      refine Pl.weak (Pl.ret hM rfl rfl h)
  · match j, c, ho with
    | 0, c, ho =>
      have ho : some (51 : Int) = some o := ho
      cases ho
      have c : x1.toInt = 0 := by simpa using c
      replace h := h.2.1 c
      show Pl PRG n d 323 52 [(0, .ref 97), (1, .int x1)] [] σ Q
      refine Pl.seg (pc' := 60) (ls' := [(0, .ref 97), (1, .int x1)]) (st' := [.int (σ.1 97 18), .ref 106]) (σ' := σ) hM 4 rfl ?_
      refine Pl.weak (Pl.iald hM rfl rfl (fun hi => ?_))
      replace h := h hi
      refine Pl.weak (Pl.ret hM rfl rfl h)
    | 1, c, ho =>
      have ho : some (61 : Int) = some o := ho
      cases ho
      have c : x1.toInt = 1 := by simpa using c
      replace h := h.2.2.1 c
      show Pl PRG n d 323 62 [(0, .ref 97), (1, .int x1)] [] σ Q
      refine Pl.seg (pc' := 70) (ls' := [(0, .ref 97), (1, .int x1)]) (st' := [.int (σ.1 97 18), .ref 107]) (σ' := σ) hM 4 rfl ?_
      refine Pl.weak (Pl.iald hM rfl rfl (fun hi => ?_))
      replace h := h hi
      refine Pl.weak (Pl.ret hM rfl rfl h)
    | 2, c, ho =>
      have ho : some (71 : Int) = some o := ho
      cases ho
      have c : x1.toInt = 2 := by simpa using c
      replace h := h.2.2.2.1 c
      show Pl PRG n d 323 72 [(0, .ref 97), (1, .int x1)] [] σ Q
      refine Pl.seg (pc' := 73) (ls' := [(0, .ref 97), (1, .int x1)]) (st' := [.ref 97]) (σ' := σ) hM 1 rfl ?_
      refine Pl.weak (Pl.cI hM rfl rfl (by decide) (Mj := M_211) rfl rfl (fun w4 σ3 hw => ?_))
      replace h := h w4 σ3 hw
      refine Pl.weak (Pl.ret hM rfl rfl h)
    | 3, c, ho =>
      have ho : some (76 : Int) = some o := ho
      cases ho
      have c : x1.toInt = 3 := by simpa using c
      replace h := h.2.2.2.2.1 c
      show Pl PRG n d 323 77 [(0, .ref 97), (1, .int x1)] [] σ Q
      refine Pl.seg (pc' := 78) (ls' := [(0, .ref 97), (1, .int x1)]) (st' := [.ref 97]) (σ' := σ) hM 1 rfl ?_
      refine Pl.weak (Pl.cI hM rfl rfl (by decide) (Mj := M_214) rfl rfl (fun w6 σ5 hw => ?_))
      replace h := h w6 σ5 hw
      refine Pl.brN (c := w6 = (-1 : Int32)) (a := 90) (b := 85) (ls' := [(0, .ref 97), (1, .int x1)]) (st' := []) (σ' := σ5) hM 2 rfl (fun c => ?_) (fun c => ?_)
      · replace h := h.2 c
        refine Pl.seg (pc' := 91) (ls' := [(0, .ref 97), (1, .int x1)]) (st' := [.ref 97]) (σ' := σ5) hM 1 rfl ?_
        refine Pl.weak (Pl.cI hM rfl rfl (by decide) (Mj := M_214) rfl rfl (fun w8 σ7 hw => ?_))
        replace h := h w8 σ7 hw
        refine Pl.weak (Pl.ret hM rfl rfl h)
      · replace h := h.1 c
        refine Pl.seg (pc' := 94) (ls' := [(0, .ref 97), (1, .int x1)]) (st' := [.int (-2 : Int32)]) (σ' := σ5) hM 2 rfl ?_
        refine Pl.weak (Pl.ret hM rfl rfl h)
    | 4, c, ho =>
      have ho : some (94 : Int) = some o := ho
      cases ho
      have c : x1.toInt = 4 := by simpa using c
      replace h := h.2.2.2.2.2.1 c
      show Pl PRG n d 323 95 [(0, .ref 97), (1, .int x1)] [] σ Q
      refine Pl.seg (pc' := 103) (ls' := [(0, .ref 97), (1, .int x1)]) (st' := [.int (σ.1 97 18), .ref 109]) (σ' := σ) hM 4 rfl ?_
      refine Pl.weak (Pl.iald hM rfl rfl (fun hi => ?_))
      replace h := h hi
      refine Pl.weak (Pl.ret hM rfl rfl h)
    | 5, c, ho =>
      have ho : some (104 : Int) = some o := ho
      cases ho
      have c : x1.toInt = 5 := by simpa using c
      replace h := h.2.2.2.2.2.2.1 c
      show Pl PRG n d 323 105 [(0, .ref 97), (1, .int x1)] [] σ Q
      refine Pl.br (c := (σ.1 97 45) = 0) (a := 119) (b := 112) (ls' := [(0, .ref 97), (1, .int x1)]) (st' := []) (σ' := σ) hM 3 rfl (fun c => ?_) (fun c => ?_)
      · replace h := h.1 c
        refine Pl.seg (pc' := 121) (ls' := [(0, .ref 97), (1, .int x1)]) (st' := [.int (-2 : Int32)]) (σ' := σ) hM 1 rfl ?_
        refine Pl.weak (Pl.ret hM rfl rfl h)
      · replace h := h.2 c
        refine Pl.seg (pc' := 121) (ls' := [(0, .ref 97), (1, .int x1)]) (st' := [.int (σ.1 97 48)]) (σ' := σ) hM 3 rfl ?_
        refine Pl.weak (Pl.ret hM rfl rfl h)
    | 6, c, ho =>
      have ho : some (121 : Int) = some o := ho
      cases ho
      have c : x1.toInt = 6 := by simpa using c
      replace h := h.2.2.2.2.2.2.2.1 c
      show Pl PRG n d 323 122 [(0, .ref 97), (1, .int x1)] [] σ Q
      refine Pl.seg (pc' := 126) (ls' := [(0, .ref 97), (1, .int x1)]) (st' := [.int (σ.1 97 86)]) (σ' := σ) hM 2 rfl ?_
      refine Pl.weak (Pl.ret hM rfl rfl h)
    | 7, c, ho =>
      have ho : some (126 : Int) = some o := ho
      cases ho
      have c : x1.toInt = 7 := by simpa using c
      replace h := h.2.2.2.2.2.2.2.2.1 c
      show Pl PRG n d 323 127 [(0, .ref 97), (1, .int x1)] [] σ Q
      refine Pl.seg (pc' := 131) (ls' := [(0, .ref 97), (1, .int x1)]) (st' := [.int (σ.1 97 2)]) (σ' := σ) hM 2 rfl ?_
      refine Pl.weak (Pl.ret hM rfl rfl h)
    | 8, c, ho =>
      have ho : some (131 : Int) = some o := ho
      cases ho
      have c : x1.toInt = 8 := by simpa using c
      replace h := h.2.2.2.2.2.2.2.2.2 c
      show Pl PRG n d 323 132 [(0, .ref 97), (1, .int x1)] [] σ Q
      refine Pl.br (c := (σ.1 152 0) = 0) (a := 145) (b := 141) (ls' := [(0, .ref 97), (1, .int x1)]) (st' := []) (σ' := σ) hM 5 rfl (fun c => ?_) (fun c => ?_)
      · replace h := h.1 c
        refine Pl.br (c := (σ.1 152 1) = 0) (a := 159) (b := 155) (ls' := [(0, .ref 97), (1, .int x1)]) (st' := [.int (0 : Int32)]) (σ' := σ) hM 6 rfl (fun c => ?_) (fun c => ?_)
        · replace h := h.1 c
          refine Pl.seg (pc' := 161) (ls' := [(0, .ref 97), (1, .int x1)]) (st' := [.int ((0 : Int32) + (0 : Int32))]) (σ' := σ) hM 2 rfl ?_
          refine Pl.weak (Pl.ret hM rfl rfl h)
        · replace h := h.2 c
          refine Pl.seg (pc' := 161) (ls' := [(0, .ref 97), (1, .int x1)]) (st' := [.int ((0 : Int32) + (1 : Int32))]) (σ' := σ) hM 3 rfl ?_
          refine Pl.weak (Pl.ret hM rfl rfl h)
      · replace h := h.2 c
        refine Pl.br (c := (σ.1 152 1) = 0) (a := 159) (b := 155) (ls' := [(0, .ref 97), (1, .int x1)]) (st' := [.int (1 : Int32)]) (σ' := σ) hM 7 rfl (fun c => ?_) (fun c => ?_)
        · replace h := h.1 c
          refine Pl.seg (pc' := 161) (ls' := [(0, .ref 97), (1, .int x1)]) (st' := [.int ((1 : Int32) + (0 : Int32))]) (σ' := σ) hM 2 rfl ?_
          refine Pl.weak (Pl.ret hM rfl rfl h)
        · replace h := h.2 c
          refine Pl.seg (pc' := 161) (ls' := [(0, .ref 97), (1, .int x1)]) (st' := [.int ((1 : Int32) + (1 : Int32))]) (σ' := σ) hM 3 rfl ?_
          refine Pl.weak (Pl.ret hM rfl rfl h)
    | k + 9, c, ho => exact absurd ho (by intro e; have e : (none : Option Int) = some o := e; cases e)
