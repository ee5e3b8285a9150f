/-! hands, deal: what must hold -/
set_option maxRecDepth 100000 in
theorem w_219_0 {d : Nat} {Q : Option Value → Sg → Prop} (σ : Sg) (h : Q none (s1 (s1 (s1 σ 97 45 (1 : Int32)) 97 47 (0 : Int32)) 97 48 (0 : Int32))) : Rn PRG d 219 0 [(0, .ref 97)] [] σ Q := by
  have hM : PRG[219]? = some M_219 := rfl
  refine Rn.seg (pc' := 15) (ls' := [(0, .ref 97)]) (st' := []) (σ' := (s1 (s1 (s1 σ 97 45 (1 : Int32)) 97 47 (0 : Int32)) 97 48 (0 : Int32))) hM 9 rfl ?_
  exact Rn.ret hM rfl rfl h
set_option maxRecDepth 100000 in
theorem w_223_0 {d : Nat} {Q : Option Value → Sg → Prop} (σ : Sg) (x1 x2 x3 : Int32) (h : (∃ Qc : Int32 → Sg → Prop, OkI PRG d 210 [.ref 97] σ Qc ∧ ∀ w2 σ1, Qc w2 σ1 → (∃ Qc : Int32 → Sg → Prop, OkI PRG d 195 [.int x1, .int (0 : Int32), .int (((1 : Int32) <<< (w2 &&& 31)) - (1 : Int32))] σ1 Qc ∧ ∀ w4 σ3, Qc w4 σ3 → ((w4 = 0 → Q (some (.int (0 : Int32))) σ3) ∧ (¬ w4 = 0 → (∃ Qc : Int32 → Sg → Prop, OkI PRG d 195 [.int x2, .int (0 : Int32), .int (((1 : Int32) <<< (w2 &&& 31)) - (1 : Int32))] σ3 Qc ∧ ∀ w6 σ5, Qc w6 σ5 → ((w6 = 0 → Q (some (.int (0 : Int32))) σ5) ∧ (¬ w6 = 0 → (∃ Qc : Int32 → Sg → Prop, OkI PRG d 195 [.int x3, .int (0 : Int32), .int (((1 : Int32) <<< (w2 &&& 31)) - (1 : Int32))] σ5 Qc ∧ ∀ w8 σ7, Qc w8 σ7 → ((w8 = 0 → Q (some (.int (0 : Int32))) σ7) ∧ (¬ w8 = 0 → (((x1 &&& x2) = 0 → (((x1 &&& x3) = 0 → (((x2 &&& x3) = 0 → (∃ Qc : Int32 → Sg → Prop, OkI PRG d 209 [.int x1] σ7 Qc ∧ ∀ w10 σ9, Qc w10 σ9 → (∃ Qc : Int32 → Sg → Prop, OkI PRG d 211 [.ref 97] σ9 Qc ∧ ∀ w12 σ11, Qc w12 σ11 → ((w10 = w12 → (∃ Qc : Int32 → Sg → Prop, OkI PRG d 209 [.int x2] σ11 Qc ∧ ∀ w14 σ13, Qc w14 σ13 → (∃ Qc : Int32 → Sg → Prop, OkI PRG d 211 [.ref 97] σ13 Qc ∧ ∀ w16 σ15, Qc w16 σ15 → ((w14 = w16 → (∃ Qc : Int32 → Sg → Prop, OkI PRG d 209 [.int x3] σ15 Qc ∧ ∀ w18 σ17, Qc w18 σ17 → (∃ Qc : Int32 → Sg → Prop, OkI PRG d 211 [.ref 97] σ17 Qc ∧ ∀ w20 σ19, Qc w20 σ19 → ((w18 = w20 → (∃ Qc : Sg → Prop, OkV PRG d 219 [.ref 97] (s1 (s1 (s1 (s1 σ19 125 0 x1) 125 1 x2) 125 2 x3) 125 3 ((((((1 : Int32) <<< (w2 &&& 31)) - (1 : Int32)) &&& (x1 ^^^ (-1 : Int32))) &&& (x2 ^^^ (-1 : Int32))) &&& (x3 ^^^ (-1 : Int32)))) Qc ∧ ∀ σ21, Qc σ21 → Q (some (.int (1 : Int32))) σ21)) ∧ (¬ w18 = w20 → Q (some (.int (0 : Int32))) σ19))))) ∧ (¬ w14 = w16 → Q (some (.int (0 : Int32))) σ15))))) ∧ (¬ w10 = w12 → Q (some (.int (0 : Int32))) σ11))))) ∧ (¬ (x2 &&& x3) = 0 → Q (some (.int (0 : Int32))) σ7))) ∧ (¬ (x1 &&& x3) = 0 → Q (some (.int (0 : Int32))) σ7))) ∧ (¬ (x1 &&& x2) = 0 → Q (some (.int (0 : Int32))) σ7))))))))))))) : Rn PRG (d + 1) 223 0 [(0, .ref 97), (1, .int x1), (2, .int x2), (3, .int x3)] [] σ Q := by
  have hM : PRG[223]? = some M_223 := rfl
  refine Rn.seg (pc' := 2) (ls' := [(0, .ref 97), (1, .int x1), (2, .int x2), (3, .int x3)]) (st' := [.ref 97, .int (1 : Int32)]) (σ' := σ) hM 2 rfl ?_
  obtain ⟨Qc, hq, h⟩ := h
  refine Rn.cI hM rfl rfl (by decide) hq (fun w2 σ1 hw => ?_)
  replace h := h w2 σ1 hw
  refine Rn.seg (pc' := 14) (ls' := [(4, .int (((1 : Int32) <<< (w2 &&& 31)) - (1 : Int32))), (0, .ref 97), (1, .int x1), (2, .int x2), (3, .int x3)]) (st' := [.int (((1 : Int32) <<< (w2 &&& 31)) - (1 : Int32)), .int (0 : Int32), .int x1]) (σ' := σ1) hM 7 rfl ?_
  obtain ⟨Qc, hq, h⟩ := h
  refine Rn.cI hM rfl rfl (by decide) hq (fun w4 σ3 hw => ?_)
  replace h := h w4 σ3 hw
  refine Rn.br (c := w4 = 0) (a := 58) (b := 20) (ls' := [(4, .int (((1 : Int32) <<< (w2 &&& 31)) - (1 : Int32))), (0, .ref 97), (1, .int x1), (2, .int x2), (3, .int x3)]) (st' := []) (σ' := σ3) hM 1 rfl (fun c => ?_) (fun c => ?_)
  · replace h := h.1 c
    refine Rn.seg (pc' := 59) (ls' := [(4, .int (((1 : Int32) <<< (w2 &&& 31)) - (1 : Int32))), (0, .ref 97), (1, .int x1), (2, .int x2), (3, .int x3)]) (st' := [.int (0 : Int32)]) (σ' := σ3) hM 1 rfl ?_
    exact Rn.ret hM rfl rfl h
  · replace h := h.2 c
    refine Rn.seg (pc' := 24) (ls' := [(4, .int (((1 : Int32) <<< (w2 &&& 31)) - (1 : Int32))), (0, .ref 97), (1, .int x1), (2, .int x2), (3, .int x3)]) (st' := [.int (((1 : Int32) <<< (w2 &&& 31)) - (1 : Int32)), .int (0 : Int32), .int x2]) (σ' := σ3) hM 3 rfl ?_
    obtain ⟨Qc, hq, h⟩ := h
    refine Rn.cI hM rfl rfl (by decide) hq (fun w6 σ5 hw => ?_)
    replace h := h w6 σ5 hw
    refine Rn.br (c := w6 = 0) (a := 58) (b := 30) (ls' := [(4, .int (((1 : Int32) <<< (w2 &&& 31)) - (1 : Int32))), (0, .ref 97), (1, .int x1), (2, .int x2), (3, .int x3)]) (st' := []) (σ' := σ5) hM 1 rfl (fun c => ?_) (fun c => ?_)
    · replace h := h.1 c
      refine Rn.seg (pc' := 59) (ls' := [(4, .int (((1 : Int32) <<< (w2 &&& 31)) - (1 : Int32))), (0, .ref 97), (1, .int x1), (2, .int x2), (3, .int x3)]) (st' := [.int (0 : Int32)]) (σ' := σ5) hM 1 rfl ?_
      exact Rn.ret hM rfl rfl h
    · replace h := h.2 c
      refine Rn.seg (pc' := 34) (ls' := [(4, .int (((1 : Int32) <<< (w2 &&& 31)) - (1 : Int32))), (0, .ref 97), (1, .int x1), (2, .int x2), (3, .int x3)]) (st' := [.int (((1 : Int32) <<< (w2 &&& 31)) - (1 : Int32)), .int (0 : Int32), .int x3]) (σ' := σ5) hM 3 rfl ?_
      obtain ⟨Qc, hq, h⟩ := h
      refine Rn.cI hM rfl rfl (by decide) hq (fun w8 σ7 hw => ?_)
      replace h := h w8 σ7 hw
      refine Rn.br (c := w8 = 0) (a := 58) (b := 40) (ls' := [(4, .int (((1 : Int32) <<< (w2 &&& 31)) - (1 : Int32))), (0, .ref 97), (1, .int x1), (2, .int x2), (3, .int x3)]) (st' := []) (σ' := σ7) hM 1 rfl (fun c => ?_) (fun c => ?_)
      · replace h := h.1 c
        refine Rn.seg (pc' := 59) (ls' := [(4, .int (((1 : Int32) <<< (w2 &&& 31)) - (1 : Int32))), (0, .ref 97), (1, .int x1), (2, .int x2), (3, .int x3)]) (st' := [.int (0 : Int32)]) (σ' := σ7) hM 1 rfl ?_
        exact Rn.ret hM rfl rfl h
      · replace h := h.2 c
        refine Rn.brN (c := (x1 &&& x2) = 0) (a := 58) (b := 46) (ls' := [(4, .int (((1 : Int32) <<< (w2 &&& 31)) - (1 : Int32))), (0, .ref 97), (1, .int x1), (2, .int x2), (3, .int x3)]) (st' := []) (σ' := σ7) hM 4 rfl (fun c => ?_) (fun c => ?_)
        · replace h := h.2 c
          refine Rn.seg (pc' := 59) (ls' := [(4, .int (((1 : Int32) <<< (w2 &&& 31)) - (1 : Int32))), (0, .ref 97), (1, .int x1), (2, .int x2), (3, .int x3)]) (st' := [.int (0 : Int32)]) (σ' := σ7) hM 1 rfl ?_
          exact Rn.ret hM rfl rfl h
        · replace h := h.1 c
          refine Rn.brN (c := (x1 &&& x3) = 0) (a := 58) (b := 52) (ls' := [(4, .int (((1 : Int32) <<< (w2 &&& 31)) - (1 : Int32))), (0, .ref 97), (1, .int x1), (2, .int x2), (3, .int x3)]) (st' := []) (σ' := σ7) hM 4 rfl (fun c => ?_) (fun c => ?_)
          · replace h := h.2 c
            refine Rn.seg (pc' := 59) (ls' := [(4, .int (((1 : Int32) <<< (w2 &&& 31)) - (1 : Int32))), (0, .ref 97), (1, .int x1), (2, .int x2), (3, .int x3)]) (st' := [.int (0 : Int32)]) (σ' := σ7) hM 1 rfl ?_
            exact Rn.ret hM rfl rfl h
          · replace h := h.1 c
            refine Rn.br (c := (x2 &&& x3) = 0) (a := 60) (b := 58) (ls' := [(4, .int (((1 : Int32) <<< (w2 &&& 31)) - (1 : Int32))), (0, .ref 97), (1, .int x1), (2, .int x2), (3, .int x3)]) (st' := []) (σ' := σ7) hM 4 rfl (fun c => ?_) (fun c => ?_)
            · replace h := h.1 c
              refine Rn.seg (pc' := 61) (ls' := [(4, .int (((1 : Int32) <<< (w2 &&& 31)) - (1 : Int32))), (0, .ref 97), (1, .int x1), (2, .int x2), (3, .int x3)]) (st' := [.int x1]) (σ' := σ7) hM 1 rfl ?_
              obtain ⟨Qc, hq, h⟩ := h
              refine Rn.cI hM rfl rfl (by decide) hq (fun w10 σ9 hw => ?_)
              replace h := h w10 σ9 hw
              refine Rn.seg (pc' := 65) (ls' := [(4, .int (((1 : Int32) <<< (w2 &&& 31)) - (1 : Int32))), (0, .ref 97), (1, .int x1), (2, .int x2), (3, .int x3)]) (st' := [.ref 97, .int w10]) (σ' := σ9) hM 1 rfl ?_
              obtain ⟨Qc, hq, h⟩ := h
              refine Rn.cI hM rfl rfl (by decide) hq (fun w12 σ11 hw => ?_)
              replace h := h w12 σ11 hw
              refine Rn.brN (c := w10 = w12) (a := 93) (b := 71) (ls' := [(4, .int (((1 : Int32) <<< (w2 &&& 31)) - (1 : Int32))), (0, .ref 97), (1, .int x1), (2, .int x2), (3, .int x3)]) (st' := []) (σ' := σ11) hM 1 rfl (fun c => ?_) (fun c => ?_)
              · replace h := h.2 c
                refine Rn.seg (pc' := 94) (ls' := [(4, .int (((1 : Int32) <<< (w2 &&& 31)) - (1 : Int32))), (0, .ref 97), (1, .int x1), (2, .int x2), (3, .int x3)]) (st' := [.int (0 : Int32)]) (σ' := σ11) hM 1 rfl ?_
                exact Rn.ret hM rfl rfl h
              · replace h := h.1 c
                refine Rn.seg (pc' := 72) (ls' := [(4, .int (((1 : Int32) <<< (w2 &&& 31)) - (1 : Int32))), (0, .ref 97), (1, .int x1), (2, .int x2), (3, .int x3)]) (st' := [.int x2]) (σ' := σ11) hM 1 rfl ?_
                obtain ⟨Qc, hq, h⟩ := h
                refine Rn.cI hM rfl rfl (by decide) hq (fun w14 σ13 hw => ?_)
                replace h := h w14 σ13 hw
                refine Rn.seg (pc' := 76) (ls' := [(4, .int (((1 : Int32) <<< (w2 &&& 31)) - (1 : Int32))), (0, .ref 97), (1, .int x1), (2, .int x2), (3, .int x3)]) (st' := [.ref 97, .int w14]) (σ' := σ13) hM 1 rfl ?_
                obtain ⟨Qc, hq, h⟩ := h
                refine Rn.cI hM rfl rfl (by decide) hq (fun w16 σ15 hw => ?_)
                replace h := h w16 σ15 hw
                refine Rn.brN (c := w14 = w16) (a := 93) (b := 82) (ls' := [(4, .int (((1 : Int32) <<< (w2 &&& 31)) - (1 : Int32))), (0, .ref 97), (1, .int x1), (2, .int x2), (3, .int x3)]) (st' := []) (σ' := σ15) hM 1 rfl (fun c => ?_) (fun c => ?_)
                · replace h := h.2 c
                  refine Rn.seg (pc' := 94) (ls' := [(4, .int (((1 : Int32) <<< (w2 &&& 31)) - (1 : Int32))), (0, .ref 97), (1, .int x1), (2, .int x2), (3, .int x3)]) (st' := [.int (0 : Int32)]) (σ' := σ15) hM 1 rfl ?_
                  exact Rn.ret hM rfl rfl h
                · replace h := h.1 c
                  refine Rn.seg (pc' := 83) (ls' := [(4, .int (((1 : Int32) <<< (w2 &&& 31)) - (1 : Int32))), (0, .ref 97), (1, .int x1), (2, .int x2), (3, .int x3)]) (st' := [.int x3]) (σ' := σ15) hM 1 rfl ?_
                  obtain ⟨Qc, hq, h⟩ := h
                  refine Rn.cI hM rfl rfl (by decide) hq (fun w18 σ17 hw => ?_)
                  replace h := h w18 σ17 hw
                  refine Rn.seg (pc' := 87) (ls' := [(4, .int (((1 : Int32) <<< (w2 &&& 31)) - (1 : Int32))), (0, .ref 97), (1, .int x1), (2, .int x2), (3, .int x3)]) (st' := [.ref 97, .int w18]) (σ' := σ17) hM 1 rfl ?_
                  obtain ⟨Qc, hq, h⟩ := h
                  refine Rn.cI hM rfl rfl (by decide) hq (fun w20 σ19 hw => ?_)
                  replace h := h w20 σ19 hw
                  refine Rn.br (c := w18 = w20) (a := 95) (b := 93) (ls' := [(4, .int (((1 : Int32) <<< (w2 &&& 31)) - (1 : Int32))), (0, .ref 97), (1, .int x1), (2, .int x2), (3, .int x3)]) (st' := []) (σ' := σ19) hM 1 rfl (fun c => ?_) (fun c => ?_)
                  · replace h := h.1 c
                    refine Rn.seg (pc' := 137) (ls' := [(4, .int (((1 : Int32) <<< (w2 &&& 31)) - (1 : Int32))), (0, .ref 97), (1, .int x1), (2, .int x2), (3, .int x3)]) (st' := [.ref 97]) (σ' := (s1 (s1 (s1 (s1 σ19 125 0 x1) 125 1 x2) 125 2 x3) 125 3 ((((((1 : Int32) <<< (w2 &&& 31)) - (1 : Int32)) &&& (x1 ^^^ (-1 : Int32))) &&& (x2 ^^^ (-1 : Int32))) &&& (x3 ^^^ (-1 : Int32))))) hM 33 rfl ?_
                    obtain ⟨Qc, hq, h⟩ := h
                    refine Rn.cV hM rfl rfl (by decide) hq (fun σ21 hw => ?_)
                    replace h := h σ21 hw
                    refine Rn.seg (pc' := 141) (ls' := [(4, .int (((1 : Int32) <<< (w2 &&& 31)) - (1 : Int32))), (0, .ref 97), (1, .int x1), (2, .int x2), (3, .int x3)]) (st' := [.int (1 : Int32)]) (σ' := σ21) hM 1 rfl ?_
                    exact Rn.ret hM rfl rfl h
                  · replace h := h.2 c
                    refine Rn.seg (pc' := 94) (ls' := [(4, .int (((1 : Int32) <<< (w2 &&& 31)) - (1 : Int32))), (0, .ref 97), (1, .int x1), (2, .int x2), (3, .int x3)]) (st' := [.int (0 : Int32)]) (σ' := σ19) hM 1 rfl ?_
                    exact Rn.ret hM rfl rfl h
            · replace h := h.2 c
              refine Rn.seg (pc' := 59) (ls' := [(4, .int (((1 : Int32) <<< (w2 &&& 31)) - (1 : Int32))), (0, .ref 97), (1, .int x1), (2, .int x2), (3, .int x3)]) (st' := [.int (0 : Int32)]) (σ' := σ7) hM 1 rfl ?_
              exact Rn.ret hM rfl rfl h
set_option maxRecDepth 100000 in
theorem w_222_0 {d : Nat} {Q : Option Value → Sg → Prop} (σ : Sg) (x1 : Int32) (h : Rn PRG (d + 1) 222 2 [(0, .ref 97), (1, .int x1), (2, .int (0 : Int32))] [] σ Q) : Rn PRG (d + 1) 222 0 [(0, .ref 97), (1, .int x1)] [] σ Q := by
  have hM : PRG[222]? = some M_222 := rfl
  refine Rn.seg (pc' := 2) (ls' := [(2, .int (0 : Int32)), (0, .ref 97), (1, .int x1)]) (st' := []) (σ' := σ) hM 2 rfl ?_
  exact Rn.sub h (subL_cons rfl (subL_cons rfl (subL_cons rfl subL_nil))) (show ndL _ from (by decide : List.Nodup ([0, 1, 2] : List Nat)))
set_option maxRecDepth 100000 in
theorem w_222_2 {d : Nat} {Q : Option Value → Sg → Prop} (σ : Sg) (x1 x2 : Int32) (h : (∃ Qc : Int32 → Sg → Prop, OkI PRG d 210 [.ref 97] σ Qc ∧ ∀ w2 σ1, Qc w2 σ1 → ((w2 ≤ x2 → (∃ Qc : Int32 → Sg → Prop, OkI PRG d 210 [.ref 97] σ1 Qc ∧ ∀ w4 σ3, Qc w4 σ3 → Rn PRG (d + 1) 222 30 [(0, .ref 97), (1, .int x1), (2, .int (w4 - (1 : Int32)))] [] σ3 Q)) ∧ (¬ w2 ≤ x2 → (inR x2 16 = true ∧ Rn PRG (d + 1) 222 2 [(0, .ref 97), (1, .int x1), (2, .int (x2 + (1 : Int32)))] [] (s1 σ1 128 x2.toNatClampNeg x2) Q))))) : Rn PRG (d + 1) 222 2 [(0, .ref 97), (1, .int x1), (2, .int x2)] [] σ Q := by
  have hM : PRG[222]? = some M_222 := rfl
  refine Rn.seg (pc' := 4) (ls' := [(0, .ref 97), (1, .int x1), (2, .int x2)]) (st' := [.ref 97, .int x2]) (σ' := σ) hM 2 rfl ?_
  obtain ⟨Qc, hq, h⟩ := h
  refine Rn.cI hM rfl rfl (by decide) hq (fun w2 σ1 hw => ?_)
  replace h := h w2 σ1 hw
  refine Rn.br (c := w2 ≤ x2) (a := 23) (b := 10) (ls' := [(0, .ref 97), (1, .int x1), (2, .int x2)]) (st' := []) (σ' := σ1) hM 1 rfl (fun c => ?_) (fun c => ?_)
  · replace h := h.1 c
    refine Rn.seg (pc' := 24) (ls' := [(0, .ref 97), (1, .int x1), (2, .int x2)]) (st' := [.ref 97]) (σ' := σ1) hM 1 rfl ?_
    obtain ⟨Qc, hq, h⟩ := h
    refine Rn.cI hM rfl rfl (by decide) hq (fun w4 σ3 hw => ?_)
    replace h := h w4 σ3 hw
    refine Rn.seg (pc' := 30) (ls' := [(2, .int (w4 - (1 : Int32))), (0, .ref 97), (1, .int x1)]) (st' := []) (σ' := σ3) hM 3 rfl ?_
    exact Rn.sub h (subL_cons rfl (subL_cons rfl (subL_cons rfl subL_nil))) (show ndL _ from (by decide : List.Nodup ([0, 1, 2] : List Nat)))
  · replace h := h.2 c
    refine Rn.seg (pc' := 16) (ls' := [(0, .ref 97), (1, .int x1), (2, .int x2)]) (st' := [.int x2, .int x2, .ref 128]) (σ' := σ1) hM 4 rfl ?_
    refine Rn.iast hM rfl rfl h.1 ?_
    refine Rn.seg (pc' := 2) (ls' := [(2, .int (x2 + (1 : Int32))), (0, .ref 97), (1, .int x1)]) (st' := []) (σ' := (s1 σ1 128 x2.toNatClampNeg x2)) hM 2 rfl ?_
    exact Rn.sub h.2 (subL_cons rfl (subL_cons rfl (subL_cons rfl subL_nil))) (show ndL _ from (by decide : List.Nodup ([0, 1, 2] : List Nat)))
set_option maxRecDepth 100000 in
theorem w_222_30 {d : Nat} {Q : Option Value → Sg → Prop} (σ : Sg) (x1 x2 : Int32) (h : ((x2 ≤ 0 → Rn PRG (d + 1) 222 79 [(0, .ref 97), (2, .int (0 : Int32))] [] σ Q) ∧ (¬ x2 ≤ 0 → (∃ Qc : Int32 → Sg → Prop, OkI PRG d 221 [.int x1, .int x2, .int (x2 + (1 : Int32))] σ Qc ∧ ∀ w2 σ1, Qc w2 σ1 → (inR x2 16 = true ∧ (inR w2 16 = true ∧ (inR x2 16 = true ∧ (inR w2 16 = true ∧ Rn PRG (d + 1) 222 30 [(0, .ref 97), (1, .int x1), (2, .int (x2 + (-1 : Int32)))] [] (s1 (s1 σ1 128 x2.toNatClampNeg (σ1.1 128 w2.toNatClampNeg)) 128 w2.toNatClampNeg (σ1.1 128 x2.toNatClampNeg)) Q)))))))) : Rn PRG (d + 1) 222 30 [(0, .ref 97), (1, .int x1), (2, .int x2)] [] σ Q := by
  have hM : PRG[222]? = some M_222 := rfl
  refine Rn.br (c := x2 ≤ 0) (a := 77) (b := 34) (ls' := [(0, .ref 97), (1, .int x1), (2, .int x2)]) (st' := []) (σ' := σ) hM 2 rfl (fun c => ?_) (fun c => ?_)
  · replace h := h.1 c
    refine Rn.seg (pc' := 79) (ls' := [(2, .int (0 : Int32)), (0, .ref 97), (1, .int x1)]) (st' := []) (σ' := σ) hM 2 rfl ?_
    exact Rn.sub h (subL_cons rfl (subL_cons rfl subL_nil)) (show ndL _ from (by decide : List.Nodup ([0, 2] : List Nat)))
  · replace h := h.2 c
    refine Rn.seg (pc' := 39) (ls' := [(0, .ref 97), (1, .int x1), (2, .int x2)]) (st' := [.int (x2 + (1 : Int32)), .int x2, .int x1]) (σ' := σ) hM 5 rfl ?_
    obtain ⟨Qc, hq, h⟩ := h
    refine Rn.cI hM rfl rfl (by decide) hq (fun w2 σ1 hw => ?_)
    replace h := h w2 σ1 hw
    refine Rn.seg (pc' := 48) (ls' := [(3, .int w2), (0, .ref 97), (1, .int x1), (2, .int x2)]) (st' := [.int x2, .ref 128]) (σ' := σ1) hM 4 rfl ?_
    refine Rn.iald hM rfl rfl h.1 ?_
    refine Rn.seg (pc' := 61) (ls' := [(4, .int (σ1.1 128 x2.toNatClampNeg)), (3, .int w2), (0, .ref 97), (1, .int x1), (2, .int x2)]) (st' := [.int w2, .ref 128, .int x2, .ref 128]) (σ' := σ1) hM 7 rfl ?_
    refine Rn.iald hM rfl rfl h.2.1 ?_
    refine Rn.seg (pc' := 62) (ls' := [(4, .int (σ1.1 128 x2.toNatClampNeg)), (3, .int w2), (0, .ref 97), (1, .int x1), (2, .int x2)]) (st' := [.int (σ1.1 128 w2.toNatClampNeg), .int x2, .ref 128]) (σ' := σ1) hM 0 rfl ?_
    refine Rn.iast hM rfl rfl h.2.2.1 ?_
    refine Rn.seg (pc' := 70) (ls' := [(4, .int (σ1.1 128 x2.toNatClampNeg)), (3, .int w2), (0, .ref 97), (1, .int x1), (2, .int x2)]) (st' := [.int (σ1.1 128 x2.toNatClampNeg), .int w2, .ref 128]) (σ' := (s1 σ1 128 x2.toNatClampNeg (σ1.1 128 w2.toNatClampNeg))) hM 4 rfl ?_
    refine Rn.iast hM rfl rfl h.2.2.2.1 ?_
    refine Rn.seg (pc' := 30) (ls' := [(2, .int (x2 + (-1 : Int32))), (4, .int (σ1.1 128 x2.toNatClampNeg)), (3, .int w2), (0, .ref 97), (1, .int x1)]) (st' := []) (σ' := (s1 (s1 σ1 128 x2.toNatClampNeg (σ1.1 128 w2.toNatClampNeg)) 128 w2.toNatClampNeg (σ1.1 128 x2.toNatClampNeg))) hM 2 rfl ?_
    exact Rn.sub h.2.2.2.2 (subL_cons rfl (subL_cons rfl (subL_cons rfl subL_nil))) (show ndL _ from (by decide : List.Nodup ([0, 1, 2] : List Nat)))
set_option maxRecDepth 100000 in
theorem w_222_79 {d : Nat} {Q : Option Value → Sg → Prop} (σ : Sg) (x2 : Int32) (h : (((4 : Int32) ≤ x2 → Rn PRG (d + 1) 222 99 [(0, .ref 97), (2, .int (0 : Int32))] [] σ Q) ∧ (¬ (4 : Int32) ≤ x2 → (inR x2 4 = true ∧ Rn PRG (d + 1) 222 79 [(0, .ref 97), (2, .int (x2 + (1 : Int32)))] [] (s1 σ 125 x2.toNatClampNeg (0 : Int32)) Q)))) : Rn PRG (d + 1) 222 79 [(0, .ref 97), (2, .int x2)] [] σ Q := by
  have hM : PRG[222]? = some M_222 := rfl
  refine Rn.br (c := (4 : Int32) ≤ x2) (a := 97) (b := 84) (ls' := [(0, .ref 97), (2, .int x2)]) (st' := []) (σ' := σ) hM 3 rfl (fun c => ?_) (fun c => ?_)
  · replace h := h.1 c
    refine Rn.seg (pc' := 99) (ls' := [(2, .int (0 : Int32)), (0, .ref 97)]) (st' := []) (σ' := σ) hM 2 rfl ?_
    exact Rn.sub h (subL_cons rfl (subL_cons rfl subL_nil)) (show ndL _ from (by decide : List.Nodup ([0, 2] : List Nat)))
  · replace h := h.2 c
    refine Rn.seg (pc' := 90) (ls' := [(0, .ref 97), (2, .int x2)]) (st' := [.int (0 : Int32), .int x2, .ref 125]) (σ' := σ) hM 4 rfl ?_
    refine Rn.iast hM rfl rfl h.1 ?_
    refine Rn.seg (pc' := 79) (ls' := [(2, .int (x2 + (1 : Int32))), (0, .ref 97)]) (st' := []) (σ' := (s1 σ 125 x2.toNatClampNeg (0 : Int32))) hM 2 rfl ?_
    exact Rn.sub h.2 (subL_cons rfl (subL_cons rfl subL_nil)) (show ndL _ from (by decide : List.Nodup ([0, 2] : List Nat)))
set_option maxRecDepth 100000 in
theorem w_222_99 {d : Nat} {Q : Option Value → Sg → Prop} (σ : Sg) (x2 : Int32) (h : (∃ Qc : Int32 → Sg → Prop, OkI PRG d 210 [.ref 97] σ Qc ∧ ∀ w2 σ1, Qc w2 σ1 → ((w2 ≤ x2 → (∃ Qc : Sg → Prop, OkV PRG d 219 [.ref 97] σ1 Qc ∧ ∀ σ3, Qc σ3 → Q (some (.int (1 : Int32))) σ3)) ∧ (¬ w2 ≤ x2 → (∃ Qc : Int32 → Sg → Prop, OkI PRG d 211 [.ref 97] σ1 Qc ∧ ∀ w5 σ4, Qc w5 σ4 → (¬ w5 = 0 ∧ (inR (x2 / w5) 4 = true ∧ (inR x2 16 = true ∧ (inR (x2 / w5) 4 = true ∧ Rn PRG (d + 1) 222 99 [(0, .ref 97), (2, .int (x2 + (1 : Int32)))] [] (s1 σ4 125 (x2 / w5).toNatClampNeg ((σ4.1 125 (x2 / w5).toNatClampNeg) ||| ((1 : Int32) <<< ((σ4.1 128 x2.toNatClampNeg) &&& 31)))) Q))))))))) : Rn PRG (d + 1) 222 99 [(0, .ref 97), (2, .int x2)] [] σ Q := by
  have hM : PRG[222]? = some M_222 := rfl
  refine Rn.seg (pc' := 101) (ls' := [(0, .ref 97), (2, .int x2)]) (st' := [.ref 97, .int x2]) (σ' := σ) hM 2 rfl ?_
  obtain ⟨Qc, hq, h⟩ := h
  refine Rn.cI hM rfl rfl (by decide) hq (fun w2 σ1 hw => ?_)
  replace h := h w2 σ1 hw
  refine Rn.br (c := w2 ≤ x2) (a := 135) (b := 107) (ls' := [(0, .ref 97), (2, .int x2)]) (st' := []) (σ' := σ1) hM 1 rfl (fun c => ?_) (fun c => ?_)
  · replace h := h.1 c
    refine Rn.seg (pc' := 136) (ls' := [(0, .ref 97), (2, .int x2)]) (st' := [.ref 97]) (σ' := σ1) hM 1 rfl ?_
    obtain ⟨Qc, hq, h⟩ := h
    refine Rn.cV hM rfl rfl (by decide) hq (fun σ3 hw => ?_)
    replace h := h σ3 hw
    refine Rn.seg (pc' := 140) (ls' := [(0, .ref 97), (2, .int x2)]) (st' := [.int (1 : Int32)]) (σ' := σ3) hM 1 rfl ?_
    exact Rn.ret hM rfl rfl h
  · replace h := h.2 c
    refine Rn.seg (pc' := 113) (ls' := [(0, .ref 97), (2, .int x2)]) (st' := [.ref 97, .int x2, .ref 125]) (σ' := σ1) hM 4 rfl ?_
    obtain ⟨Qc, hq, h⟩ := h
    refine Rn.cI hM rfl rfl (by decide) hq (fun w5 σ4 hw => ?_)
    replace h := h w5 σ4 hw
    refine Rn.seg (pc' := 116) (ls' := [(0, .ref 97), (2, .int x2)]) (st' := [.int w5, .int x2, .ref 125]) (σ' := σ4) hM 0 rfl ?_
    refine Rn.dv hM rfl h.1 ?_
    refine Rn.seg (pc' := 118) (ls' := [(0, .ref 97), (2, .int x2)]) (st' := [.int (x2 / w5), .ref 125, .int (x2 / w5), .ref 125]) (σ' := σ4) hM 1 rfl ?_
    refine Rn.iald hM rfl rfl h.2.1 ?_
    refine Rn.seg (pc' := 125) (ls' := [(0, .ref 97), (2, .int x2)]) (st' := [.int x2, .ref 128, .int (1 : Int32), .int (σ4.1 125 (x2 / w5).toNatClampNeg), .int (x2 / w5), .ref 125]) (σ' := σ4) hM 4 rfl ?_
    refine Rn.iald hM rfl rfl h.2.2.1 ?_
    refine Rn.seg (pc' := 128) (ls' := [(0, .ref 97), (2, .int x2)]) (st' := [.int ((σ4.1 125 (x2 / w5).toNatClampNeg) ||| ((1 : Int32) <<< ((σ4.1 128 x2.toNatClampNeg) &&& 31))), .int (x2 / w5), .ref 125]) (σ' := σ4) hM 2 rfl ?_
    refine Rn.iast hM rfl rfl h.2.2.2.1 ?_
    refine Rn.seg (pc' := 99) (ls' := [(2, .int (x2 + (1 : Int32))), (0, .ref 97)]) (st' := []) (σ' := (s1 σ4 125 (x2 / w5).toNatClampNeg ((σ4.1 125 (x2 / w5).toNatClampNeg) ||| ((1 : Int32) <<< ((σ4.1 128 x2.toNatClampNeg) &&& 31))))) hM 2 rfl ?_
    exact Rn.sub h.2.2.2.2 (subL_cons rfl (subL_cons rfl subL_nil)) (show ndL _ from (by decide : List.Nodup ([0, 2] : List Nat)))
/-! hands: a deal as it is told -/
def DL (N : Nat) (dl : Nat → Int32) : Prop := (∀ p, p ≤ 3 → cnt N (dl p) = N / 4) ∧ (∀ p, p ≤ 3 → ∀ b, N ≤ b → bt (dl p) b = false) ∧ (∀ p q, p ≤ 3 → q ≤ 3 → ¬ p = q → ∀ b, bt (dl p) b = true → bt (dl q) b = false)
theorem DL.pl {N : Nat} {dl cd wh : Nat → Int32} (h : DL N dl) : PL N dl 0 cd wh :=
  ⟨Nat.zero_le _, h.1, h.2.1, h.2.2, fun k hk => absurd hk (by omega), fun j k _ hk => absurd hk (by omega), fun k hk => absurd hk (by omega)⟩
def DEPH : List (Nat × Nat × Nat) := [(108, 0, 1), (109, 0, 7), (111, 0, 1), (112, 0, 31), (113, 0, 31)]
theorem HS.keep {N : Nat} {ms : List (Nat × Nat × Nat)} {σ σ' : Sg} (hN : N ≤ 16) (h : HS N σ) (hG : Gl ms σ σ') (ho : offD ms DEPH = true) : HS N σ' := by
  have ho2 : ∀ {κ k : Nat}, inM DEPH κ k = true → inM ms κ k = false := fun hk => off_in ho hk
  have e152 : ∀ k, k ≤ 1 → σ'.1 152 k = σ.1 152 k := fun k hk => hG.get (q := 152) (κ := 108) rfl (ho2 (inM_of (a := 0) (b := 1) (by decide) (by omega) hk))
  have e153 : ∀ k, k ≤ 7 → σ'.1 153 k = σ.1 153 k := fun k hk => hG.get (q := 153) (κ := 109) rfl (ho2 (inM_of (a := 0) (b := 7) (by decide) (by omega) hk))
  have e155 : ∀ k, k ≤ 1 → σ'.1 155 k = σ.1 155 k := fun k hk => hG.get (q := 155) (κ := 111) rfl (ho2 (inM_of (a := 0) (b := 1) (by decide) (by omega) hk))
  have e156 : ∀ k, k ≤ 31 → σ'.1 156 k = σ.1 156 k := fun k hk => hG.get (q := 156) (κ := 112) rfl (ho2 (inM_of (a := 0) (b := 31) (by decide) (by omega) hk))
  have e157 : ∀ k, k ≤ 31 → σ'.1 157 k = σ.1 157 k := fun k hk => hG.get (q := 157) (κ := 113) rfl (ho2 (inM_of (a := 0) (b := 31) (by decide) (by omega) hk))
  intro s hs h0
  rw [e152 s hs] at h0
  rw [e155 s hs]
  have hp := h s hs h0
  have := hp.1
  exact hp.congr (fun p hp => e153 _ (by omega)) (fun k hk => e156 _ (by omega)) (fun k hk => e157 _ (by omega))
theorem starts_OK {d : Nat} {σ : Sg} : OkV PRG d 219 [.ref 97] σ (fun σ' => σ' = s1 (s1 (s1 σ 97 45 (1 : Int32)) 97 47 (0 : Int32)) 97 48 (0 : Int32)) :=
  ⟨M_219, rfl, Nat.le_of_ble_eq_true rfl, w_219_0 σ ⟨rfl, rfl⟩⟩
theorem start_GI {N : Nat} {σ : Sg} (ht : typed TYP σ) (hI : I2 σ) (hP : pack N σ) (hT : TB σ) (hH : HS N σ) (hD : DL N (σ.1 125)) : GI N (s1 (s1 (s1 σ 97 45 (1 : Int32)) 97 47 (0 : Int32)) 97 48 (0 : Int32)) := by
  have k1 : Gl [(12, 45, 45), (12, 47, 48)] σ (s1 σ 97 45 (1 : Int32)) := wrG (κ := 12) (a := 45) (b := 45) (vl := 1) (vh := 1) rfl rfl (Gl.refl ht) rfl (Nat.le_refl _) (Nat.le_refl _) (by decide) (by decide)
  have k2 := wrG (x := (0 : Int32)) (q := 97) (k := 47) (κ := 12) (a := 47) (b := 47) (vl := 0) (vh := 0) rfl rfl k1 rfl (Nat.le_refl _) (Nat.le_refl _) (by decide) (by decide)
  have k3 := wrG (x := (0 : Int32)) (q := 97) (k := 48) (κ := 12) (a := 48) (b := 48) (vl := 0) (vh := 0) rfl rfl k2 rfl (Nat.le_refl _) (Nat.le_refl _) (by decide) (by decide)
  refine ⟨k3.1, hI.keep k3 rfl, pack_of (k3.get (q := 97) (κ := 12) rfl rfl) (k3.get (q := 106) (κ := 62) rfl rfl) (k3.get (q := 107) (κ := 63) rfl rfl) hP, hT.keep k3 rfl, ⟨fun _ => ?_, fun _ => ?_⟩, hH.keep hP.le.2 k3 rfl⟩
  · rw [s1_on]; rfl
  · rw [s1_on]
    have : wn (0 : Int32) = 0 := rfl
    rw [this]
    have hD' : DL N ((s1 (s1 (s1 σ 97 45 (1 : Int32)) 97 47 (0 : Int32)) 97 48 (0 : Int32)).1 125) := by
      have e : (s1 (s1 (s1 σ 97 45 (1 : Int32)) 97 47 (0 : Int32)) 97 48 (0 : Int32)).1 125 = σ.1 125 := by
        funext k
        rw [s1_off (by omega), s1_off (by omega), s1_off (by omega)]
      rw [e]; exact hD
    exact hD'.pl
theorem cnt_pop {N : Nat} {x : Int32} (hN : N ≤ 16) (h : ∀ b, N ≤ b → bt x b = false) : cnt N x = pop x := by
  have : ∀ m, N ≤ m → cnt m x = cnt N x := by
    intro m
    induction m with
    | zero => intro hm; rw [show N = 0 by omega]
    | succ m ih =>
      intro hm
      by_cases hm2 : N = m + 1
      · rw [hm2]
      · rw [cnt_succ, h m (by omega), ih (by omega)]; simp
  exact (this 16 hN).symm
theorem le_all {N : Nat} {x : Int32} (hN : N = 4 ∨ N = 8 ∨ N = 12 ∨ N = 16) (h0 : 0 ≤ x.toInt) (h1 : x.toInt ≤ (((1 : Int32) <<< (nI N &&& 31)) - (1 : Int32)).toInt) : ∀ b, N ≤ b → bt x b = false := by
  intro b hb
  have e : (((1 : Int32) <<< (nI N &&& 31)) - (1 : Int32)).toInt = 2 ^ N - 1 := by
    rcases hN with rfl | rfl | rfl | rfl <;> decide
  exact bt_lt (k := N) (by omega) h0 (by omega) hb
theorem hands_OK {d N : Nat} {x1 x2 x3 : Int32} {σ : Sg} (h : GI N σ) : OkI PRG (d + 1 + 1) 223 [.ref 97, .int x1, .int x2, .int x3] σ (fun _ σ' => GI N σ') := by
  obtain ⟨ht, hI, hP, hT, hS, hH⟩ := h
  have h : GI N σ := ⟨ht, hI, hP, hT, hS, hH⟩
  have hN := hP.le
  have no : ∃ w : Int32, some (Value.int (0 : Int32)) = some (.int w) ∧ GI N σ := ⟨0, rfl, h⟩
  refine ⟨M_223, rfl, Nat.le_of_ble_eq_true rfl, w_223_0 σ x1 x2 x3 ⟨_, cards_OK ht hP, fun w2 σ1 hq => ?_⟩⟩
  obtain ⟨rfl, hw⟩ := hq
  have ew : w2 = nI N := i_nI hw (by omega)
  subst ew
  obtain ⟨a1, a2, a3⟩ := all_bt N hP.1
  refine ⟨_, in_OK, fun w4 σ3 hq => ?_⟩
  obtain ⟨rfl, q4⟩ := hq
  refine ⟨fun _ => no, fun n4 => ⟨_, in_OK, fun w6 σ5 hq => ?_⟩⟩
  obtain ⟨rfl, q6⟩ := hq
  refine ⟨fun _ => no, fun n6 => ⟨_, in_OK, fun w8 σ7 hq => ?_⟩⟩
  obtain ⟨rfl, q8⟩ := hq
  refine ⟨fun _ => no, fun n8 => ⟨fun d12 => ⟨fun d13 => ⟨fun d23 => ?_, fun _ => no⟩, fun _ => no⟩, fun _ => no⟩⟩
  have r1 : 0 ≤ x1.toInt ∧ x1.toInt ≤ (((1 : Int32) <<< (nI N &&& 31)) - (1 : Int32)).toInt := by
    rcases q4 with ⟨-, a, b⟩ | ⟨e, -⟩
    · exact ⟨a, b⟩
    · exact absurd e n4
  have r2 : 0 ≤ x2.toInt ∧ x2.toInt ≤ (((1 : Int32) <<< (nI N &&& 31)) - (1 : Int32)).toInt := by
    rcases q6 with ⟨-, a, b⟩ | ⟨e, -⟩
    · exact ⟨a, b⟩
    · exact absurd e n6
  have r3 : 0 ≤ x3.toInt ∧ x3.toInt ≤ (((1 : Int32) <<< (nI N &&& 31)) - (1 : Int32)).toInt := by
    rcases q8 with ⟨-, a, b⟩ | ⟨e, -⟩
    · exact ⟨a, b⟩
    · exact absurd e n8
  have l1 := le_all hP.1 r1.1 r1.2
  have l2 := le_all hP.1 r2.1 r2.2
  have l3 := le_all hP.1 r3.1 r3.2
  refine ⟨_, bits_ok, fun w10 σ9 hq => ?_⟩
  obtain ⟨rfl, b1⟩ := hq
  refine ⟨_, handSize_OK ht hP, fun w12 σ11 hq => ?_⟩
  obtain ⟨rfl, c1⟩ := hq
  refine ⟨fun e1 => ?_, fun _ => no⟩
  refine ⟨_, bits_ok, fun w14 σ13 hq => ?_⟩
  obtain ⟨rfl, b2⟩ := hq
  refine ⟨_, handSize_OK ht hP, fun w16 σ15 hq => ?_⟩
  obtain ⟨rfl, c2⟩ := hq
  refine ⟨fun e2 => ?_, fun _ => no⟩
  refine ⟨_, bits_ok, fun w18 σ17 hq => ?_⟩
  obtain ⟨rfl, b3⟩ := hq
  refine ⟨_, handSize_OK ht hP, fun w20 σ19 hq => ?_⟩
  obtain ⟨rfl, c3⟩ := hq
  refine ⟨fun e3 => ?_, fun _ => no⟩
  have p1 : pop x1 = N / 4 := by rw [e1, c1] at b1; omega
  have p2 : pop x2 = N / 4 := by rw [e2, c2] at b2; omega
  have p3 : pop x3 = N / 4 := by rw [e3, c3] at b3; omega
  clear b1 b2 b3 c1 c2 c3 e1 e2 e3 q4 q6 q8
  have z : ∀ {x y : Int32}, (x &&& y) = 0 → ∀ b, bt x b = true → bt y b = false := by
    intro x y hxy b hb
    have := congrArg (fun v => bt v b) hxy
    simp only [bt_and, bt_0, hb, Bool.true_and] at this
    exact this
  generalize hall : ((1 : Int32) <<< (nI N &&& 31)) - (1 : Int32) = all at *
  have bx4 : ∀ b, b < 32 → bt (((all &&& (x1 ^^^ (-1 : Int32))) &&& (x2 ^^^ (-1 : Int32))) &&& (x3 ^^^ (-1 : Int32))) b = (((decide (b < N) && !bt x1 b) && !bt x2 b) && !bt x3 b) := by
    intro b hb
    rw [bt_and, bt_and, bt_and, bt_not _ hb, bt_not _ hb, bt_not _ hb, a1 b hb]
  have n1 := and_nn (y := x1 ^^^ (-1 : Int32)) a2
  have n2 := and_nn (y := x2 ^^^ (-1 : Int32)) n1.1
  have n3 := and_nn (y := x3 ^^^ (-1 : Int32)) n2.1
  generalize ((all &&& (x1 ^^^ (-1 : Int32))) &&& (x2 ^^^ (-1 : Int32))) &&& (x3 ^^^ (-1 : Int32)) = x4 at bx4 n3 ⊢
  have sum : ∀ m, m ≤ N → cnt m x1 + cnt m x2 + cnt m x3 + cnt m x4 = m := by
    intro m
    induction m with
    | zero => intro _; rfl
    | succ m ih =>
      intro hm
      have ih := ih (by omega)
      rw [cnt_succ, cnt_succ, cnt_succ, cnt_succ, bx4 m (by omega), decide_eq_true (by omega : m < N)]
      have z12 := z d12 m
      have z13 := z d13 m
      have z23 := z d23 m
      cases h1 : bt x1 m <;> cases h2 : bt x2 m <;> cases h3 : bt x3 m <;> simp_all <;> omega
  have l4 : ∀ b, N ≤ b → bt x4 b = false := by
    intro b hb
    by_cases h32 : b < 32
    · rw [bx4 b h32, decide_eq_false (by omega)]; simp
    · exact bt_big x4 (by omega)
  have k1 := cnt_pop hN.2 l1
  have k2 := cnt_pop hN.2 l2
  have k3 := cnt_pop hN.2 l3
  have k4 : cnt N x4 = N / 4 := by
    have := sum N (Nat.le_refl _)
    have := hP.1
    omega
  have g1 : Gl [(81, 0, 3)] σ19 (s1 σ19 125 0 x1) := wrG (κ := 81) (a := 0) (b := 3) (vl := 0) (vh := 65535) rfl rfl (Gl.refl ht) rfl (by omega) (by omega) r1.1 (by omega)
  have g2 := wrG (x := x2) (q := 125) (k := 1) (κ := 81) (a := 0) (b := 3) (vl := 0) (vh := 65535) rfl rfl g1 rfl (by omega) (by omega) r2.1 (by omega)
  have g3 := wrG (x := x3) (q := 125) (k := 2) (κ := 81) (a := 0) (b := 3) (vl := 0) (vh := 65535) rfl rfl g2 rfl (by omega) (by omega) r3.1 (by omega)
  have g4 := wrG (x := x4) (q := 125) (k := 3) (κ := 81) (a := 0) (b := 3) (vl := 0) (vh := 65535) rfl rfl g3 rfl (by omega) (by omega) n3.1 (by omega)
  generalize hσ9 : s1 (s1 (s1 (s1 σ19 125 0 x1) 125 1 x2) 125 2 x3) 125 3 x4 = σ9 at g4 ⊢
  have v0 : σ9.1 125 0 = x1 := by rw [← hσ9]; rfl
  have v1 : σ9.1 125 1 = x2 := by rw [← hσ9]; rfl
  have v2 : σ9.1 125 2 = x3 := by rw [← hσ9]; rfl
  have v3 : σ9.1 125 3 = x4 := by rw [← hσ9]; rfl
  have d4 : ∀ b, (bt x1 b = true ∨ bt x2 b = true ∨ bt x3 b = true) → bt x4 b = false := by
    intro b hb
    by_cases h32 : b < 32
    · rw [bx4 b h32]
      rcases hb with hb | hb | hb <;> rw [hb] <;> simp
    · exact bt_big x4 (by omega)
  have zs : ∀ {x y : Int32}, (∀ b, bt x b = true → bt y b = false) → ∀ b, bt y b = true → bt x b = false := by
    intro x y hxy b hb
    cases hx : bt x b with
    | false => rfl
    | true => rw [hxy b hx] at hb; cases hb
  have hD : DL N (σ9.1 125) := by
    refine ⟨fun p hp => ?_, fun p hp => ?_, fun p q hp hq hne => ?_⟩
    · have : p = 0 ∨ p = 1 ∨ p = 2 ∨ p = 3 := by omega
      rcases this with rfl | rfl | rfl | rfl
      · rw [v0, k1, p1]
      · rw [v1, k2, p2]
      · rw [v2, k3, p3]
      · rw [v3, k4]
    · have : p = 0 ∨ p = 1 ∨ p = 2 ∨ p = 3 := by omega
      rcases this with rfl | rfl | rfl | rfl
      · rw [v0]; exact l1
      · rw [v1]; exact l2
      · rw [v2]; exact l3
      · rw [v3]; exact l4
    · have hp' : p = 0 ∨ p = 1 ∨ p = 2 ∨ p = 3 := by omega
      have hq' : q = 0 ∨ q = 1 ∨ q = 2 ∨ q = 3 := by omega
      have c14 : ∀ b, bt x1 b = true → bt x4 b = false := fun b hb => d4 b (Or.inl hb)
      have c24 : ∀ b, bt x2 b = true → bt x4 b = false := fun b hb => d4 b (Or.inr (Or.inl hb))
      have c34 : ∀ b, bt x3 b = true → bt x4 b = false := fun b hb => d4 b (Or.inr (Or.inr hb))
      rcases hp' with rfl | rfl | rfl | rfl <;> rcases hq' with rfl | rfl | rfl | rfl <;> first
        | exact absurd rfl hne
        | (rw [v0, v1]; exact z d12)
        | (rw [v0, v2]; exact z d13)
        | (rw [v0, v3]; exact c14)
        | (rw [v1, v0]; exact zs (z d12))
        | (rw [v1, v2]; exact z d23)
        | (rw [v1, v3]; exact c24)
        | (rw [v2, v0]; exact zs (z d13))
        | (rw [v2, v1]; exact zs (z d23))
        | (rw [v2, v3]; exact c34)
        | (rw [v3, v0]; exact zs c14)
        | (rw [v3, v1]; exact zs c24)
        | (rw [v3, v2]; exact zs c34)
  refine ⟨_, starts_OK, fun σ21 hq => ⟨_, rfl, ?_⟩⟩
  rw [hq]
  exact start_GI g4.1 (hI.keep g4 rfl) (pack_of (g4.get (q := 97) (κ := 12) rfl rfl) (g4.get (q := 106) (κ := 62) rfl rfl) (g4.get (q := 107) (κ := 63) rfl rfl) hP) (hT.keep g4 rfl) (hH.keep hN.2 g4 rfl) hD
