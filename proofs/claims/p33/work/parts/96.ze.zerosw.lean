/-! what a run that ends has done: leading and trailing zeros -/
def LV_0 : List (Nat × List Nat) := [(0, [0]), (1, [0]), (4, [0]), (5, []), (8, []), (10, []), (13, []), (14, []), (15, [0]), (17, [0]), (18, [0, 1]), (19, [0, 1]), (22, [0, 1]), (25, [0, 1]), (28, [0, 1]), (29, [1]), (31, [1]), (32, [1]), (33, [0, 1]), (34, [0, 1]), (37, [0, 1]), (40, [0, 1]), (43, [0, 1]), (44, [1]), (46, [1]), (47, [1]), (48, [0, 1]), (49, [0, 1]), (51, [0, 1]), (54, [0, 1]), (57, [0, 1]), (58, [1]), (59, [1]), (60, [1]), (61, [0, 1]), (62, [0, 1]), (63, [0, 1]), (66, [0, 1]), (69, [0, 1]), (70, [1]), (71, [1]), (72, [1]), (73, [0, 1]), (74, [0]), (75, []), (76, []), (77, []), (78, [])]
set_option maxRecDepth 100000 in
theorem lv_0 : chkLv M_0 LV_0 = true := by decide +kernel
set_option maxRecDepth 100000 in
theorem lva_0_33 : lvA LV_0 33 = [0, 1] := by decide +kernel
set_option maxRecDepth 100000 in
theorem lva_0_48 : lvA LV_0 48 = [0, 1] := by decide +kernel
set_option maxRecDepth 100000 in
theorem lva_0_61 : lvA LV_0 61 = [0, 1] := by decide +kernel
set_option maxRecDepth 100000 in
theorem lva_0_73 : lvA LV_0 73 = [0, 1] := by decide +kernel
set_option maxRecDepth 100000 in
theorem p_0_0 {n d : Nat} {Q : Option Value → Sg → Prop} (σ : Sg) (x0 : Int32) (h : ((0 < x0 → ((x0 < (65536 : Int32) → Pl PRG n d 0 33 [(0, .int x0), (1, .int (31 : Int32))] [] σ Q) ∧ (¬ x0 < (65536 : Int32) → Pl PRG n d 0 33 [(0, .int (ush x0 (16 : Int32))), (1, .int ((31 : Int32) + (-16 : Int32)))] [] σ Q))) ∧ (¬ 0 < x0 → ((x0 = 0 → Q (some (.int (32 : Int32))) σ) ∧ (¬ x0 = 0 → Q (some (.int (0 : Int32))) σ))))) : Pl PRG (n + 1) d 0 0 [(0, .int x0)] [] σ Q := by
  have hM : PRG[0]? = some M_0 := rfl
  refine Pl.br1 (c := 0 < x0) (a := 15) (b := 4) (ls' := [(0, .int x0)]) (st' := []) (σ' := σ) hM 1 rfl (fun c => ?_) (fun c => ?_)
  · replace h := h.1 c
    refine Pl.br (c := x0 < (65536 : Int32)) (a := 33) (b := 25) (ls' := [(1, .int (31 : Int32)), (0, .int x0)]) (st' := []) (σ' := σ) hM 5 rfl (fun c => ?_) (fun c => ?_)
    · replace h := h.1 c
      exact Pl.live (l' := [(0, .int x0), (1, .int (31 : Int32))]) hM lv_0 ⟨show ndL _ from (by decide : List.Nodup ([1, 0] : List Nat)), show ndL _ from (by decide : List.Nodup ([0, 1] : List Nat)), by rw [lva_0_33]; exact List.forall_mem_cons.mpr ⟨rfl, List.forall_mem_cons.mpr ⟨rfl, fun _ h => absurd h List.not_mem_nil⟩⟩⟩ h
    · replace h := h.2 c
      refine Pl.seg (pc' := 33) (ls' := [(0, .int (ush x0 (16 : Int32))), (1, .int ((31 : Int32) + (-16 : Int32)))]) (st' := []) (σ' := σ) hM 5 rfl ?_
      exact Pl.live (l' := [(0, .int (ush x0 (16 : Int32))), (1, .int ((31 : Int32) + (-16 : Int32)))]) hM lv_0 ⟨show ndL _ from (by decide : List.Nodup ([0, 1] : List Nat)), show ndL _ from (by decide : List.Nodup ([0, 1] : List Nat)), by rw [lva_0_33]; exact List.forall_mem_cons.mpr ⟨rfl, List.forall_mem_cons.mpr ⟨rfl, fun _ h => absurd h List.not_mem_nil⟩⟩⟩ h
  · replace h := h.2 c
    refine Pl.brN (c := x0 = 0) (a := 13) (b := 8) (ls' := [(0, .int x0)]) (st' := []) (σ' := σ) hM 2 rfl (fun c => ?_) (fun c => ?_)
    · replace h := h.2 c
      refine Pl.seg (pc' := 14) (ls' := [(0, .int x0)]) (st' := [.int (0 : Int32)]) (σ' := σ) hM 1 rfl ?_
      refine Pl.weak (Pl.ret hM rfl rfl h)
    · replace h := h.1 c
      refine Pl.seg (pc' := 14) (ls' := [(0, .int x0)]) (st' := [.int (32 : Int32)]) (σ' := σ) hM 2 rfl ?_
      refine Pl.weak (Pl.ret hM rfl rfl h)
set_option maxRecDepth 100000 in
theorem p_0_33 {n d : Nat} {Q : Option Value → Sg → Prop} (σ : Sg) (x0 x1 : Int32) (h : ((x0 < (256 : Int32) → Pl PRG n d 0 48 [(0, .int x0), (1, .int x1)] [] σ Q) ∧ (¬ x0 < (256 : Int32) → Pl PRG n d 0 48 [(0, .int (ush x0 (8 : Int32))), (1, .int (x1 + (-8 : Int32)))] [] σ Q))) : Pl PRG (n + 1) d 0 33 [(0, .int x0), (1, .int x1)] [] σ Q := by
  have hM : PRG[0]? = some M_0 := rfl
  refine Pl.br1 (c := x0 < (256 : Int32)) (a := 48) (b := 40) (ls' := [(0, .int x0), (1, .int x1)]) (st' := []) (σ' := σ) hM 2 rfl (fun c => ?_) (fun c => ?_)
  · replace h := h.1 c
    exact Pl.live (l' := [(0, .int x0), (1, .int x1)]) hM lv_0 ⟨show ndL _ from (by decide : List.Nodup ([0, 1] : List Nat)), show ndL _ from (by decide : List.Nodup ([0, 1] : List Nat)), by rw [lva_0_48]; exact List.forall_mem_cons.mpr ⟨rfl, List.forall_mem_cons.mpr ⟨rfl, fun _ h => absurd h List.not_mem_nil⟩⟩⟩ h
  · replace h := h.2 c
    refine Pl.seg (pc' := 48) (ls' := [(0, .int (ush x0 (8 : Int32))), (1, .int (x1 + (-8 : Int32)))]) (st' := []) (σ' := σ) hM 5 rfl ?_
    exact Pl.live (l' := [(0, .int (ush x0 (8 : Int32))), (1, .int (x1 + (-8 : Int32)))]) hM lv_0 ⟨show ndL _ from (by decide : List.Nodup ([0, 1] : List Nat)), show ndL _ from (by decide : List.Nodup ([0, 1] : List Nat)), by rw [lva_0_48]; exact List.forall_mem_cons.mpr ⟨rfl, List.forall_mem_cons.mpr ⟨rfl, fun _ h => absurd h List.not_mem_nil⟩⟩⟩ h
set_option maxRecDepth 100000 in
theorem p_0_48 {n d : Nat} {Q : Option Value → Sg → Prop} (σ : Sg) (x0 x1 : Int32) (h : ((x0 < (16 : Int32) → Pl PRG n d 0 61 [(0, .int x0), (1, .int x1)] [] σ Q) ∧ (¬ x0 < (16 : Int32) → Pl PRG n d 0 61 [(0, .int (ush x0 (4 : Int32))), (1, .int (x1 + (-4 : Int32)))] [] σ Q))) : Pl PRG (n + 1) d 0 48 [(0, .int x0), (1, .int x1)] [] σ Q := by
  have hM : PRG[0]? = some M_0 := rfl
  refine Pl.br1 (c := x0 < (16 : Int32)) (a := 61) (b := 54) (ls' := [(0, .int x0), (1, .int x1)]) (st' := []) (σ' := σ) hM 2 rfl (fun c => ?_) (fun c => ?_)
  · replace h := h.1 c
    exact Pl.live (l' := [(0, .int x0), (1, .int x1)]) hM lv_0 ⟨show ndL _ from (by decide : List.Nodup ([0, 1] : List Nat)), show ndL _ from (by decide : List.Nodup ([0, 1] : List Nat)), by rw [lva_0_61]; exact List.forall_mem_cons.mpr ⟨rfl, List.forall_mem_cons.mpr ⟨rfl, fun _ h => absurd h List.not_mem_nil⟩⟩⟩ h
  · replace h := h.2 c
    refine Pl.seg (pc' := 61) (ls' := [(0, .int (ush x0 (4 : Int32))), (1, .int (x1 + (-4 : Int32)))]) (st' := []) (σ' := σ) hM 5 rfl ?_
    exact Pl.live (l' := [(0, .int (ush x0 (4 : Int32))), (1, .int (x1 + (-4 : Int32)))]) hM lv_0 ⟨show ndL _ from (by decide : List.Nodup ([0, 1] : List Nat)), show ndL _ from (by decide : List.Nodup ([0, 1] : List Nat)), by rw [lva_0_61]; exact List.forall_mem_cons.mpr ⟨rfl, List.forall_mem_cons.mpr ⟨rfl, fun _ h => absurd h List.not_mem_nil⟩⟩⟩ h
set_option maxRecDepth 100000 in
theorem p_0_61 {n d : Nat} {Q : Option Value → Sg → Prop} (σ : Sg) (x0 x1 : Int32) (h : ((x0 < (4 : Int32) → Pl PRG n d 0 73 [(0, .int x0), (1, .int x1)] [] σ Q) ∧ (¬ x0 < (4 : Int32) → Pl PRG n d 0 73 [(0, .int (ush x0 (2 : Int32))), (1, .int (x1 + (-2 : Int32)))] [] σ Q))) : Pl PRG (n + 1) d 0 61 [(0, .int x0), (1, .int x1)] [] σ Q := by
  have hM : PRG[0]? = some M_0 := rfl
  refine Pl.br1 (c := x0 < (4 : Int32)) (a := 73) (b := 66) (ls' := [(0, .int x0), (1, .int x1)]) (st' := []) (σ' := σ) hM 2 rfl (fun c => ?_) (fun c => ?_)
  · replace h := h.1 c
    exact Pl.live (l' := [(0, .int x0), (1, .int x1)]) hM lv_0 ⟨show ndL _ from (by decide : List.Nodup ([0, 1] : List Nat)), show ndL _ from (by decide : List.Nodup ([0, 1] : List Nat)), by rw [lva_0_73]; exact List.forall_mem_cons.mpr ⟨rfl, List.forall_mem_cons.mpr ⟨rfl, fun _ h => absurd h List.not_mem_nil⟩⟩⟩ h
  · replace h := h.2 c
    refine Pl.seg (pc' := 73) (ls' := [(0, .int (ush x0 (2 : Int32))), (1, .int (x1 + (-2 : Int32)))]) (st' := []) (σ' := σ) hM 5 rfl ?_
    exact Pl.live (l' := [(0, .int (ush x0 (2 : Int32))), (1, .int (x1 + (-2 : Int32)))]) hM lv_0 ⟨show ndL _ from (by decide : List.Nodup ([0, 1] : List Nat)), show ndL _ from (by decide : List.Nodup ([0, 1] : List Nat)), by rw [lva_0_73]; exact List.forall_mem_cons.mpr ⟨rfl, List.forall_mem_cons.mpr ⟨rfl, fun _ h => absurd h List.not_mem_nil⟩⟩⟩ h
set_option maxRecDepth 100000 in
theorem p_0_73 {n d : Nat} {Q : Option Value → Sg → Prop} (σ : Sg) (x0 x1 : Int32) (h : Q (some (.int (x1 - (ush x0 (1 : Int32))))) σ) : Pl PRG (n + 1) d 0 73 [(0, .int x0), (1, .int x1)] [] σ Q := by
  have hM : PRG[0]? = some M_0 := rfl
  refine Pl.sg1 (pc' := 78) (ls' := [(0, .int x0), (1, .int x1)]) (st' := [.int (x1 - (ush x0 (1 : Int32)))]) (σ' := σ) hM 4 rfl ?_
  refine Pl.weak (Pl.ret hM rfl rfl h)
def LV_1 : List (Nat × List Nat) := [(0, [0]), (1, [0]), (2, [0]), (3, [0]), (4, []), (5, []), (6, []), (7, []), (8, [0]), (9, [0]), (12, [0]), (13, []), (15, []), (16, []), (17, [0]), (18, [0]), (19, [0, 1]), (20, [0, 1]), (23, [0, 1]), (26, [0, 1]), (29, [0, 1]), (30, [1]), (32, [1]), (33, [1]), (34, [0, 1]), (35, [0, 1]), (38, [0, 1]), (41, [0, 1]), (44, [0, 1]), (45, [1]), (47, [1]), (48, [1]), (49, [0, 1]), (50, [0, 1]), (52, [0, 1]), (55, [0, 1]), (58, [0, 1]), (59, [1]), (60, [1]), (61, [1]), (62, [0, 1]), (63, [0, 1]), (64, [0, 1]), (67, [0, 1]), (70, [0, 1]), (71, [1]), (72, [1]), (73, [1]), (74, [0, 1]), (75, [0]), (76, []), (77, []), (78, []), (79, [])]
set_option maxRecDepth 100000 in
theorem lv_1 : chkLv M_1 LV_1 = true := by decide +kernel
set_option maxRecDepth 100000 in
theorem lva_1_34 : lvA LV_1 34 = [0, 1] := by decide +kernel
set_option maxRecDepth 100000 in
theorem lva_1_49 : lvA LV_1 49 = [0, 1] := by decide +kernel
set_option maxRecDepth 100000 in
theorem lva_1_62 : lvA LV_1 62 = [0, 1] := by decide +kernel
set_option maxRecDepth 100000 in
theorem lva_1_74 : lvA LV_1 74 = [0, 1] := by decide +kernel
set_option maxRecDepth 100000 in
theorem p_1_0 {n d : Nat} {Q : Option Value → Sg → Prop} (σ : Sg) (x0 : Int32) (h : ((0 < ((x0 ^^^ (-1 : Int32)) &&& (x0 - (1 : Int32))) → ((((x0 ^^^ (-1 : Int32)) &&& (x0 - (1 : Int32))) ≤ (65536 : Int32) → Pl PRG n d 1 34 [(0, .int ((x0 ^^^ (-1 : Int32)) &&& (x0 - (1 : Int32)))), (1, .int (1 : Int32))] [] σ Q) ∧ (¬ ((x0 ^^^ (-1 : Int32)) &&& (x0 - (1 : Int32))) ≤ (65536 : Int32) → Pl PRG n d 1 34 [(0, .int (ush ((x0 ^^^ (-1 : Int32)) &&& (x0 - (1 : Int32))) (16 : Int32))), (1, .int ((1 : Int32) + (16 : Int32)))] [] σ Q))) ∧ (¬ 0 < ((x0 ^^^ (-1 : Int32)) &&& (x0 - (1 : Int32))) → Q (some (.int (((x0 ^^^ (-1 : Int32)) &&& (x0 - (1 : Int32))) &&& (32 : Int32)))) σ))) : Pl PRG (n + 1) d 1 0 [(0, .int x0)] [] σ Q := by
  have hM : PRG[1]? = some M_1 := rfl
  refine Pl.br1 (c := 0 < ((x0 ^^^ (-1 : Int32)) &&& (x0 - (1 : Int32)))) (a := 17) (b := 12) (ls' := [(0, .int ((x0 ^^^ (-1 : Int32)) &&& (x0 - (1 : Int32))))]) (st' := []) (σ' := σ) hM 9 rfl (fun c => ?_) (fun c => ?_)
  · replace h := h.1 c
    refine Pl.br (c := ((x0 ^^^ (-1 : Int32)) &&& (x0 - (1 : Int32))) ≤ (65536 : Int32)) (a := 34) (b := 26) (ls' := [(1, .int (1 : Int32)), (0, .int ((x0 ^^^ (-1 : Int32)) &&& (x0 - (1 : Int32))))]) (st' := []) (σ' := σ) hM 5 rfl (fun c => ?_) (fun c => ?_)
    · replace h := h.1 c
      exact Pl.live (l' := [(0, .int ((x0 ^^^ (-1 : Int32)) &&& (x0 - (1 : Int32)))), (1, .int (1 : Int32))]) hM lv_1 ⟨show ndL _ from (by decide : List.Nodup ([1, 0] : List Nat)), show ndL _ from (by decide : List.Nodup ([0, 1] : List Nat)), by rw [lva_1_34]; exact List.forall_mem_cons.mpr ⟨rfl, List.forall_mem_cons.mpr ⟨rfl, fun _ h => absurd h List.not_mem_nil⟩⟩⟩ h
    · replace h := h.2 c
      refine Pl.seg (pc' := 34) (ls' := [(0, .int (ush ((x0 ^^^ (-1 : Int32)) &&& (x0 - (1 : Int32))) (16 : Int32))), (1, .int ((1 : Int32) + (16 : Int32)))]) (st' := []) (σ' := σ) hM 5 rfl ?_
      exact Pl.live (l' := [(0, .int (ush ((x0 ^^^ (-1 : Int32)) &&& (x0 - (1 : Int32))) (16 : Int32))), (1, .int ((1 : Int32) + (16 : Int32)))]) hM lv_1 ⟨show ndL _ from (by decide : List.Nodup ([0, 1] : List Nat)), show ndL _ from (by decide : List.Nodup ([0, 1] : List Nat)), by rw [lva_1_34]; exact List.forall_mem_cons.mpr ⟨rfl, List.forall_mem_cons.mpr ⟨rfl, fun _ h => absurd h List.not_mem_nil⟩⟩⟩ h
  · replace h := h.2 c
    refine Pl.seg (pc' := 16) (ls' := [(0, .int ((x0 ^^^ (-1 : Int32)) &&& (x0 - (1 : Int32))))]) (st' := [.int (((x0 ^^^ (-1 : Int32)) &&& (x0 - (1 : Int32))) &&& (32 : Int32))]) (σ' := σ) hM 3 rfl ?_
    refine Pl.weak (Pl.ret hM rfl rfl h)
set_option maxRecDepth 100000 in
theorem p_1_34 {n d : Nat} {Q : Option Value → Sg → Prop} (σ : Sg) (x0 x1 : Int32) (h : ((x0 ≤ (256 : Int32) → Pl PRG n d 1 49 [(0, .int x0), (1, .int x1)] [] σ Q) ∧ (¬ x0 ≤ (256 : Int32) → Pl PRG n d 1 49 [(0, .int (ush x0 (8 : Int32))), (1, .int (x1 + (8 : Int32)))] [] σ Q))) : Pl PRG (n + 1) d 1 34 [(0, .int x0), (1, .int x1)] [] σ Q := by
  have hM : PRG[1]? = some M_1 := rfl
  refine Pl.br1 (c := x0 ≤ (256 : Int32)) (a := 49) (b := 41) (ls' := [(0, .int x0), (1, .int x1)]) (st' := []) (σ' := σ) hM 2 rfl (fun c => ?_) (fun c => ?_)
  · replace h := h.1 c
    exact Pl.live (l' := [(0, .int x0), (1, .int x1)]) hM lv_1 ⟨show ndL _ from (by decide : List.Nodup ([0, 1] : List Nat)), show ndL _ from (by decide : List.Nodup ([0, 1] : List Nat)), by rw [lva_1_49]; exact List.forall_mem_cons.mpr ⟨rfl, List.forall_mem_cons.mpr ⟨rfl, fun _ h => absurd h List.not_mem_nil⟩⟩⟩ h
  · replace h := h.2 c
    refine Pl.seg (pc' := 49) (ls' := [(0, .int (ush x0 (8 : Int32))), (1, .int (x1 + (8 : Int32)))]) (st' := []) (σ' := σ) hM 5 rfl ?_
    exact Pl.live (l' := [(0, .int (ush x0 (8 : Int32))), (1, .int (x1 + (8 : Int32)))]) hM lv_1 ⟨show ndL _ from (by decide : List.Nodup ([0, 1] : List Nat)), show ndL _ from (by decide : List.Nodup ([0, 1] : List Nat)), by rw [lva_1_49]; exact List.forall_mem_cons.mpr ⟨rfl, List.forall_mem_cons.mpr ⟨rfl, fun _ h => absurd h List.not_mem_nil⟩⟩⟩ h
set_option maxRecDepth 100000 in
theorem p_1_49 {n d : Nat} {Q : Option Value → Sg → Prop} (σ : Sg) (x0 x1 : Int32) (h : ((x0 ≤ (16 : Int32) → Pl PRG n d 1 62 [(0, .int x0), (1, .int x1)] [] σ Q) ∧ (¬ x0 ≤ (16 : Int32) → Pl PRG n d 1 62 [(0, .int (ush x0 (4 : Int32))), (1, .int (x1 + (4 : Int32)))] [] σ Q))) : Pl PRG (n + 1) d 1 49 [(0, .int x0), (1, .int x1)] [] σ Q := by
  have hM : PRG[1]? = some M_1 := rfl
  refine Pl.br1 (c := x0 ≤ (16 : Int32)) (a := 62) (b := 55) (ls' := [(0, .int x0), (1, .int x1)]) (st' := []) (σ' := σ) hM 2 rfl (fun c => ?_) (fun c => ?_)
  · replace h := h.1 c
    exact Pl.live (l' := [(0, .int x0), (1, .int x1)]) hM lv_1 ⟨show ndL _ from (by decide : List.Nodup ([0, 1] : List Nat)), show ndL _ from (by decide : List.Nodup ([0, 1] : List Nat)), by rw [lva_1_62]; exact List.forall_mem_cons.mpr ⟨rfl, List.forall_mem_cons.mpr ⟨rfl, fun _ h => absurd h List.not_mem_nil⟩⟩⟩ h
  · replace h := h.2 c
    refine Pl.seg (pc' := 62) (ls' := [(0, .int (ush x0 (4 : Int32))), (1, .int (x1 + (4 : Int32)))]) (st' := []) (σ' := σ) hM 5 rfl ?_
    exact Pl.live (l' := [(0, .int (ush x0 (4 : Int32))), (1, .int (x1 + (4 : Int32)))]) hM lv_1 ⟨show ndL _ from (by decide : List.Nodup ([0, 1] : List Nat)), show ndL _ from (by decide : List.Nodup ([0, 1] : List Nat)), by rw [lva_1_62]; exact List.forall_mem_cons.mpr ⟨rfl, List.forall_mem_cons.mpr ⟨rfl, fun _ h => absurd h List.not_mem_nil⟩⟩⟩ h
set_option maxRecDepth 100000 in
theorem p_1_62 {n d : Nat} {Q : Option Value → Sg → Prop} (σ : Sg) (x0 x1 : Int32) (h : ((x0 ≤ (4 : Int32) → Pl PRG n d 1 74 [(0, .int x0), (1, .int x1)] [] σ Q) ∧ (¬ x0 ≤ (4 : Int32) → Pl PRG n d 1 74 [(0, .int (ush x0 (2 : Int32))), (1, .int (x1 + (2 : Int32)))] [] σ Q))) : Pl PRG (n + 1) d 1 62 [(0, .int x0), (1, .int x1)] [] σ Q := by
  have hM : PRG[1]? = some M_1 := rfl
  refine Pl.br1 (c := x0 ≤ (4 : Int32)) (a := 74) (b := 67) (ls' := [(0, .int x0), (1, .int x1)]) (st' := []) (σ' := σ) hM 2 rfl (fun c => ?_) (fun c => ?_)
  · replace h := h.1 c
    exact Pl.live (l' := [(0, .int x0), (1, .int x1)]) hM lv_1 ⟨show ndL _ from (by decide : List.Nodup ([0, 1] : List Nat)), show ndL _ from (by decide : List.Nodup ([0, 1] : List Nat)), by rw [lva_1_74]; exact List.forall_mem_cons.mpr ⟨rfl, List.forall_mem_cons.mpr ⟨rfl, fun _ h => absurd h List.not_mem_nil⟩⟩⟩ h
  · replace h := h.2 c
    refine Pl.seg (pc' := 74) (ls' := [(0, .int (ush x0 (2 : Int32))), (1, .int (x1 + (2 : Int32)))]) (st' := []) (σ' := σ) hM 5 rfl ?_
    exact Pl.live (l' := [(0, .int (ush x0 (2 : Int32))), (1, .int (x1 + (2 : Int32)))]) hM lv_1 ⟨show ndL _ from (by decide : List.Nodup ([0, 1] : List Nat)), show ndL _ from (by decide : List.Nodup ([0, 1] : List Nat)), by rw [lva_1_74]; exact List.forall_mem_cons.mpr ⟨rfl, List.forall_mem_cons.mpr ⟨rfl, fun _ h => absurd h List.not_mem_nil⟩⟩⟩ h
set_option maxRecDepth 100000 in
theorem p_1_74 {n d : Nat} {Q : Option Value → Sg → Prop} (σ : Sg) (x0 x1 : Int32) (h : Q (some (.int (x1 + (ush x0 (1 : Int32))))) σ) : Pl PRG (n + 1) d 1 74 [(0, .int x0), (1, .int x1)] [] σ Q := by
  have hM : PRG[1]? = some M_1 := rfl
  refine Pl.sg1 (pc' := 79) (ls' := [(0, .int x0), (1, .int x1)]) (st' := [.int (x1 + (ush x0 (1 : Int32)))]) (σ' := σ) hM 4 rfl ?_
  refine Pl.weak (Pl.ret hM rfl rfl h)
