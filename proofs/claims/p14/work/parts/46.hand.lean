/-! cards, takesHand: what must hold -/
set_option maxRecDepth 100000 in
theorem w_210_0 {d : Nat} {Q : Option Value → Sg → Prop} (σ : Sg) (h : (inR (σ.1 97 18) 2 = true ∧ (inR (σ.1 97 18) 2 = true ∧ Q (some (.int ((σ.1 106 (σ.1 97 18).toNatClampNeg) * (σ.1 107 (σ.1 97 18).toNatClampNeg)))) σ))) : Rn PRG d 210 0 [(0, .ref 97)] [] σ Q := by
  have hM : PRG[210]? = some M_210 := rfl
  refine Rn.seg (pc' := 8) (ls' := [(0, .ref 97)]) (st' := [.int (σ.1 97 18), .ref 106]) (σ' := σ) hM 4 rfl ?_
  refine Rn.iald hM rfl rfl h.1 ?_
  refine Rn.seg (pc' := 17) (ls' := [(0, .ref 97)]) (st' := [.int (σ.1 97 18), .ref 107, .int (σ.1 106 (σ.1 97 18).toNatClampNeg)]) (σ' := σ) hM 4 rfl ?_
  refine Rn.iald hM rfl rfl h.2.1 ?_
  refine Rn.seg (pc' := 19) (ls' := [(0, .ref 97)]) (st' := [.int ((σ.1 106 (σ.1 97 18).toNatClampNeg) * (σ.1 107 (σ.1 97 18).toNatClampNeg))]) (σ' := σ) hM 1 rfl ?_
  exact Rn.ret hM rfl rfl h.2.2
set_option maxRecDepth 100000 in
theorem w_272_0 {d : Nat} {Q : Option Value → Sg → Prop} (σ : Sg) (x1 x2 : Int32) (h : (inR x1 4 = true ∧ Rn PRG (d + 1) 272 9 [(0, .ref 97), (1, .int x1), (2, .int x2), (3, .int (0 : Int32))] [] (s1 σ 137 x1.toNatClampNeg (0 : Int32)) Q)) : Rn PRG (d + 1) 272 0 [(0, .ref 97), (1, .int x1), (2, .int x2)] [] σ Q := by
  have hM : PRG[272]? = some M_272 := rfl
  refine Rn.seg (pc' := 6) (ls' := [(0, .ref 97), (1, .int x1), (2, .int x2)]) (st' := [.int (0 : Int32), .int x1, .ref 137]) (σ' := σ) hM 4 rfl ?_
  refine Rn.iast hM rfl rfl h.1 ?_
  refine Rn.seg (pc' := 9) (ls' := [(3, .int (0 : Int32)), (0, .ref 97), (1, .int x1), (2, .int x2)]) (st' := []) (σ' := (s1 σ 137 x1.toNatClampNeg (0 : Int32))) hM 2 rfl ?_
  exact Rn.sub h.2 (subL_cons rfl (subL_cons rfl (subL_cons rfl (subL_cons rfl subL_nil)))) (show ndL _ from (by decide : List.Nodup ([0, 1, 2, 3] : List Nat)))
set_option maxRecDepth 100000 in
theorem w_272_9 {d : Nat} {Q : Option Value → Sg → Prop} (σ : Sg) (x1 x2 x3 : Int32) (h : (∃ Qc : Int32 → Sg → Prop, OkI PRG d 210 [.ref 97] σ Qc ∧ ∀ w2 σ1, Qc w2 σ1 → ((w2 ≤ x3 → (inR x1 4 = true ∧ (inR x1 4 = true ∧ Q none (s1 σ1 139 x1.toNatClampNeg (((1 : Int32) <<< ((σ1.1 137 x1.toNatClampNeg) &&& 31)) - (1 : Int32)))))) ∧ (¬ w2 ≤ x3 → ((((x2 >>> (x3 &&& 31)) &&& (1 : Int32)) = 0 → Rn PRG (d + 1) 272 9 [(0, .ref 97), (1, .int x1), (2, .int x2), (3, .int (x3 + (1 : Int32)))] [] σ1 Q) ∧ (¬ ((x2 >>> (x3 &&& 31)) &&& (1 : Int32)) = 0 → (inR x1 4 = true ∧ (inR (((4 : Int32) * x1) + (σ1.1 137 x1.toNatClampNeg)) 16 = true ∧ (inR x1 4 = true ∧ (inR x1 4 = true ∧ Rn PRG (d + 1) 272 9 [(0, .ref 97), (1, .int x1), (2, .int x2), (3, .int (x3 + (1 : Int32)))] [] (s1 (s1 σ1 138 (((4 : Int32) * x1) + (σ1.1 137 x1.toNatClampNeg)).toNatClampNeg x3) 137 x1.toNatClampNeg ((σ1.1 137 x1.toNatClampNeg) + (1 : Int32))) Q)))))))))) : Rn PRG (d + 1) 272 9 [(0, .ref 97), (1, .int x1), (2, .int x2), (3, .int x3)] [] σ Q := by
  have hM : PRG[272]? = some M_272 := rfl
  refine Rn.seg (pc' := 11) (ls' := [(0, .ref 97), (1, .int x1), (2, .int x2), (3, .int x3)]) (st' := [.ref 97, .int x3]) (σ' := σ) hM 2 rfl ?_
  obtain ⟨Qc, hq, h⟩ := h
  refine Rn.cI hM rfl rfl (by decide) hq (fun w2 σ1 hw => ?_)
  replace h := h w2 σ1 hw
  refine Rn.br (c := w2 ≤ x3) (a := 60) (b := 17) (ls' := [(0, .ref 97), (1, .int x1), (2, .int x2), (3, .int x3)]) (st' := []) (σ' := σ1) hM 1 rfl (fun c => ?_) (fun c => ?_)
  · replace h := h.1 c
    refine Rn.seg (pc' := 71) (ls' := [(0, .ref 97), (1, .int x1), (2, .int x2), (3, .int x3)]) (st' := [.int x1, .ref 137, .int (1 : Int32), .int x1, .ref 139]) (σ' := σ1) hM 7 rfl ?_
    refine Rn.iald hM rfl rfl h.1 ?_
    refine Rn.seg (pc' := 75) (ls' := [(0, .ref 97), (1, .int x1), (2, .int x2), (3, .int x3)]) (st' := [.int (((1 : Int32) <<< ((σ1.1 137 x1.toNatClampNeg) &&& 31)) - (1 : Int32)), .int x1, .ref 139]) (σ' := σ1) hM 3 rfl ?_
    refine Rn.iast hM rfl rfl h.2.1 ?_
    refine Rn.seg (pc' := 76) (ls' := [(0, .ref 97), (1, .int x1), (2, .int x2), (3, .int x3)]) (st' := []) (σ' := (s1 σ1 139 x1.toNatClampNeg (((1 : Int32) <<< ((σ1.1 137 x1.toNatClampNeg) &&& 31)) - (1 : Int32)))) hM 0 rfl ?_
    exact Rn.ret hM rfl rfl h.2.2
  · replace h := h.2 c
    refine Rn.brN (c := ((x2 >>> (x3 &&& 31)) &&& (1 : Int32)) = 0) (a := 28) (b := 25) (ls' := [(0, .ref 97), (1, .int x1), (2, .int x2), (3, .int x3)]) (st' := []) (σ' := σ1) hM 6 rfl (fun c => ?_) (fun c => ?_)
    · replace h := h.2 c
      refine Rn.seg (pc' := 40) (ls' := [(0, .ref 97), (1, .int x1), (2, .int x2), (3, .int x3)]) (st' := [.int x1, .ref 137, .int ((4 : Int32) * x1), .ref 138]) (σ' := σ1) hM 8 rfl ?_
      refine Rn.iald hM rfl rfl h.1 ?_
      refine Rn.seg (pc' := 43) (ls' := [(0, .ref 97), (1, .int x1), (2, .int x2), (3, .int x3)]) (st' := [.int x3, .int (((4 : Int32) * x1) + (σ1.1 137 x1.toNatClampNeg)), .ref 138]) (σ' := σ1) hM 2 rfl ?_
      refine Rn.iast hM rfl rfl h.2.1 ?_
      refine Rn.seg (pc' := 50) (ls' := [(0, .ref 97), (1, .int x1), (2, .int x2), (3, .int x3)]) (st' := [.int x1, .ref 137, .int x1, .ref 137]) (σ' := (s1 σ1 138 (((4 : Int32) * x1) + (σ1.1 137 x1.toNatClampNeg)).toNatClampNeg x3)) hM 4 rfl ?_
      refine Rn.iald hM rfl rfl h.2.2.1 ?_
      refine Rn.seg (pc' := 53) (ls' := [(0, .ref 97), (1, .int x1), (2, .int x2), (3, .int x3)]) (st' := [.int ((σ1.1 137 x1.toNatClampNeg) + (1 : Int32)), .int x1, .ref 137]) (σ' := (s1 σ1 138 (((4 : Int32) * x1) + (σ1.1 137 x1.toNatClampNeg)).toNatClampNeg x3)) hM 2 rfl ?_
      refine Rn.iast hM rfl rfl h.2.2.2.1 ?_
      refine Rn.seg (pc' := 9) (ls' := [(3, .int (x3 + (1 : Int32))), (0, .ref 97), (1, .int x1), (2, .int x2)]) (st' := []) (σ' := (s1 (s1 σ1 138 (((4 : Int32) * x1) + (σ1.1 137 x1.toNatClampNeg)).toNatClampNeg x3) 137 x1.toNatClampNeg ((σ1.1 137 x1.toNatClampNeg) + (1 : Int32)))) hM 2 rfl ?_
      exact Rn.sub h.2.2.2.2 (subL_cons rfl (subL_cons rfl (subL_cons rfl (subL_cons rfl subL_nil)))) (show ndL _ from (by decide : List.Nodup ([0, 1, 2, 3] : List Nat)))
    · replace h := h.1 c
      refine Rn.seg (pc' := 9) (ls' := [(3, .int (x3 + (1 : Int32))), (0, .ref 97), (1, .int x1), (2, .int x2)]) (st' := []) (σ' := σ1) hM 3 rfl ?_
      exact Rn.sub h (subL_cons rfl (subL_cons rfl (subL_cons rfl (subL_cons rfl subL_nil)))) (show ndL _ from (by decide : List.Nodup ([0, 1, 2, 3] : List Nat)))
/-! the pack's number of cards; takesHand -/
/-- the live pack has N cards -/
def pack (N : Nat) (σ : Sg) : Prop := (N = 4 ∨ N = 8 ∨ N = 12 ∨ N = 16) ∧ 1 ≤ (σ.1 106 (σ.1 97 18).toNatClampNeg).toInt ∧ (σ.1 106 (σ.1 97 18).toNatClampNeg).toInt ≤ 4 ∧ 1 ≤ (σ.1 107 (σ.1 97 18).toNatClampNeg).toInt ∧ (σ.1 107 (σ.1 97 18).toNatClampNeg).toInt ≤ 16 ∧ (σ.1 106 (σ.1 97 18).toNatClampNeg).toInt * (σ.1 107 (σ.1 97 18).toNatClampNeg).toInt = (N : Int)
theorem pack.pk {N : Nat} {σ : Sg} (h : pack N σ) : pkOK σ := fun h0 => by
  have := h.2.2.2.1
  rw [h0] at this
  exact absurd this (by decide)
theorem pack.le {N : Nat} {σ : Sg} (h : pack N σ) : 4 ≤ N ∧ N ≤ 16 := by
  have := h.1
  omega
theorem cards_OK {d N : Nat} {σ : Sg} (ht : typed TYP σ) (hp : pack N σ) : OkI PRG d 210 [.ref 97] σ (fun w σ' => σ' = σ ∧ w.toInt = (N : Int)) := by
  refine ⟨M_210, rfl, Nat.le_of_ble_eq_true rfl, w_210_0 σ ⟨live_in ht, live_in ht, _, rfl, rfl, ?_⟩⟩
  have := hp.le
  obtain ⟨-, h1, h2, h3, h4, h5⟩ := hp
  rw [mul_ex (by rw [h5]; unfold FL; omega) (by rw [h5]; unfold FH; omega), h5]
/-- how many of the first n cards a set has -/
def cnt (n : Nat) (x : Int32) : Nat := (List.range n).countP (bt x)
theorem cnt_succ (n : Nat) (x : Int32) : cnt (n + 1) x = cnt n x + (if bt x n then 1 else 0) := by
  unfold cnt
  rw [List.range_succ, List.countP_append]
  simp [List.countP_cons]
theorem cnt_mono {a b : Nat} {x : Int32} (h : a ≤ b) : cnt a x ≤ cnt b x := by
  induction b with
  | zero => rw [show a = 0 by omega]; exact Nat.le_refl _
  | succ b ih =>
    by_cases hb : a = b + 1
    · rw [hb]; exact Nat.le_refl _
    · have := ih (by omega)
      rw [cnt_succ]
      omega
def mdTake : List (Nat × Nat × Nat) := [(93, 0, 3), (94, 0, 15), (95, 0, 3)]
/-- hand x of player p laid out -/
def tk (N p : Nat) (x : Int32) (σ : Sg) : Prop := (σ.1 137 p).toInt = ((cnt N x : Nat) : Int) ∧ (∀ c : Nat, c < N → bt x c = true → (σ.1 138 (4 * p + cnt c x)).toInt = (c : Int)) ∧ σ.1 139 p = nI (2 ^ cnt N x - 1)
theorem mask_val : ∀ h : Nat, h ≤ 4 → ((1 : Int32) <<< (nI h &&& 31)) - (1 : Int32) = nI (2 ^ h - 1) := by decide
theorem nI_rg : ∀ h : Nat, h ≤ 4 → 0 ≤ (nI (2 ^ h - 1)).toInt ∧ (nI (2 ^ h - 1)).toInt ≤ 15 := by decide
theorem takes_go {d N : Nat} {x1 x2 : Int32} {σ0 : Sg} {p : Nat} (h1 : x1.toInt = (p : Int)) (hp : p ≤ 3) (hP : pack N σ0) (hc : cnt N x2 ≤ 4) : ∀ (m k : Nat) (x3 : Int32) (σ : Sg), k + m = N → x3.toInt = (k : Int) → Gl mdTake σ0 σ → (σ.1 137 p).toInt = ((cnt k x2 : Nat) : Int) → (∀ c : Nat, c < k → bt x2 c = true → (σ.1 138 (4 * p + cnt c x2)).toInt = (c : Int)) → (∀ j, ¬ j = p → σ.1 137 j = σ0.1 137 j) → (∀ j, σ.1 139 j = σ0.1 139 j) → (∀ i, ¬ (4 * p ≤ i ∧ i < 4 * p + 4) → σ.1 138 i = σ0.1 138 i) → Rn PRG (d + 1) 272 9 [(0, .ref 97), (1, .int x1), (2, .int x2), (3, .int x3)] [] σ (fun v σ' => v = none ∧ Gl mdTake σ0 σ' ∧ tk N p x2 σ' ∧ (∀ j, ¬ j = p → σ'.1 137 j = σ0.1 137 j) ∧ (∀ j, ¬ j = p → σ'.1 139 j = σ0.1 139 j) ∧ (∀ i, ¬ (4 * p ≤ i ∧ i < 4 * p + 4) → σ'.1 138 i = σ0.1 138 i)) := by
  have c1 := cn_of h1
  have hin : inR x1 4 = true := inR_ok (by omega) (by omega)
  have hN := hP.le
  have hP' : ∀ {σ : Sg}, Gl mdTake σ0 σ → pack N σ := by
    intro σ hG
    have e97 : ∀ k, σ.1 97 k = σ0.1 97 k := fun k => hG.get (q := 97) (κ := 12) rfl rfl
    have e106 : ∀ k, σ.1 106 k = σ0.1 106 k := fun k => hG.get (q := 106) (κ := 62) rfl rfl
    have e107 : ∀ k, σ.1 107 k = σ0.1 107 k := fun k => hG.get (q := 107) (κ := 63) rfl rfl
    unfold pack
    rw [e97, e106, e107]
    exact hP
  intro m
  induction m with
  | zero =>
    intro k x3 σ hk h3 hG g1 g2 g3 g4 g5
    have hkN : k = N := by omega
    subst hkN
    refine w_272_9 σ x1 x2 x3 ⟨_, cards_OK hG.1 (hP' hG), fun w2 σ1 hq => ?_⟩
    obtain ⟨rfl, hw⟩ := hq
    refine ⟨fun _ => ⟨hin, hin, rfl, ?_⟩, fun c => absurd (by rw [Int32.le_iff_toInt_le, hw, h3]; omega) c⟩
    rw [c1, i_nI g1 (by omega), mask_val _ hc]
    have hr := nI_rg _ hc
    refine ⟨wrG (κ := 95) (a := 0) (b := 3) (vl := 0) (vh := 15) rfl rfl hG rfl (Nat.zero_le _) hp hr.1 hr.2, ⟨?_, fun c hc1 hb => ?_, s1_on⟩, fun j hj => ?_, fun j hj => ?_, fun i hi => ?_⟩
    · rw [s1_off (by omega)]; exact g1
    · rw [s1_off (by omega)]; exact g2 c hc1 hb
    · rw [s1_off (by omega)]; exact g3 j hj
    · rw [s1_off (fun h => hj h.2)]; exact g4 j
    · rw [s1_off (by omega)]; exact g5 i hi
  | succ m ih =>
    intro k x3 σ hk h3 hG g1 g2 g3 g4 g5
    have hx3 : (x3 + (1 : Int32)).toInt = ((k + 1 : Nat) : Int) := by
      rw [add_lit (k := 1) h3 (by decide) (by unfold FL; omega) (by unfold FH; omega)]; push_cast; rfl
    refine w_272_9 σ x1 x2 x3 ⟨_, cards_OK hG.1 (hP' hG), fun w2 σ1 hq => ?_⟩
    obtain ⟨rfl, hw⟩ := hq
    refine ⟨fun c => ?_, fun c => ?_⟩
    · rw [Int32.le_iff_toInt_le, hw, h3] at c
      omega
    · clear c hw
      rw [bit_ne0 h3 (by omega), c1]
      have hmon := cnt_mono (a := k + 1) (b := N) (x := x2) (by omega)
      rw [cnt_succ] at hmon
      refine ⟨fun hb => ?_, fun hb => ?_⟩
      · refine ih (k + 1) _ σ1 (by omega) hx3 hG ?_ ?_ g3 g4 g5
        · rw [cnt_succ, hb]; simpa using g1
        · intro c hc1 hc2
          by_cases hck : c = k
          · subst hck; rw [hb] at hc2; cases hc2
          · exact g2 c (by omega) hc2
      · have hb : bt x2 k = true := by
          cases h : bt x2 k with
          | true => rfl
          | false => exact absurd h hb
        rw [hb, if_pos rfl] at hmon
        have hk3 : cnt k x2 ≤ 3 := by omega
        have i4 : (((4 : Int32) * x1) + (σ1.1 137 p)).toInt = ((4 * p + cnt k x2 : Nat) : Int) := idx_4 h1 g1 hp hk3
        have hin4 : inR (((4 : Int32) * x1) + (σ1.1 137 p)) 16 = true := inR_ok (by rw [i4]; omega) (by rw [i4]; omega)
        rw [cn_of i4]
        refine ⟨hin, hin4, hin, hin, ?_⟩
        have hadd : ((σ1.1 137 p) + (1 : Int32)).toInt = ((cnt k x2 + 1 : Nat) : Int) := by
          rw [add_lit (k := 1) g1 (by decide) (by unfold FL; omega) (by unfold FH; omega)]; push_cast; rfl
        clear i4 hin4
        have q1 : Gl mdTake σ0 (s1 σ1 138 (4 * p + cnt k x2) x3) := wrG (κ := 94) (a := 0) (b := 15) (vl := 0) (vh := 15) rfl rfl hG rfl (Nat.zero_le _) (by omega) (by omega) (by omega)
        have q2 := wrG (x := (σ1.1 137 p) + (1 : Int32)) (q := 137) (k := p) (κ := 93) (a := 0) (b := 3) (vl := 0) (vh := 4) rfl rfl q1 rfl (Nat.zero_le _) hp (by rw [hadd]; omega) (by rw [hadd]; omega)
        refine ih (k + 1) _ _ (by omega) hx3 q2 ?_ ?_ ?_ ?_ ?_
        · rw [s1_on, hadd, cnt_succ, hb, if_pos rfl]
        · intro c hc1 hc2
          rw [s1_off (by omega)]
          by_cases hck : c = k
          · subst hck; rw [s1_on]; exact h3
          · have h5 := cnt_mono (a := c + 1) (b := k) (x := x2) (by omega)
            rw [cnt_succ, hc2, if_pos rfl] at h5
            rw [s1_off (by omega)]
            exact g2 c (by omega) hc2
        · intro j hj
          rw [s1_off (fun h => hj h.2), s1_off (by omega)]
          exact g3 j hj
        · intro j
          rw [s1_off (by omega), s1_off (by omega)]
          exact g4 j
        · intro i hi
          rw [s1_off (by omega), s1_off (by omega)]
          exact g5 i hi
theorem takesHand_OK {d N : Nat} {x1 x2 : Int32} {σ : Sg} {p : Nat} (ht : typed TYP σ) (h1 : x1.toInt = (p : Int)) (hp : p ≤ 3) (hP : pack N σ) (hc : cnt N x2 ≤ 4) : OkV PRG (d + 1) 272 [.ref 97, .int x1, .int x2] σ (fun σ' => Gl mdTake σ σ' ∧ tk N p x2 σ' ∧ (∀ j, ¬ j = p → σ'.1 137 j = σ.1 137 j) ∧ (∀ j, ¬ j = p → σ'.1 139 j = σ.1 139 j) ∧ (∀ i, ¬ (4 * p ≤ i ∧ i < 4 * p + 4) → σ'.1 138 i = σ.1 138 i)) := by
  have c1 := cn_of h1
  have hin : inR x1 4 = true := inR_ok (by omega) (by omega)
  refine ⟨M_272, rfl, Nat.le_of_ble_eq_true rfl, w_272_0 σ x1 x2 ⟨hin, ?_⟩⟩
  rw [c1]
  have g : Gl mdTake σ (s1 σ 137 p 0) := wrG (κ := 93) (a := 0) (b := 3) (vl := 0) (vh := 0) rfl rfl (Gl.refl ht) rfl (Nat.zero_le _) hp (by decide) (by decide)
  refine takes_go h1 hp hP hc N 0 0 _ (by omega) rfl g ?_ (fun c hc => absurd hc (by omega)) (fun j hj => s1_off (fun h => hj h.2)) (fun j => s1_off (by omega)) (fun i _ => s1_off (by omega))
  rw [s1_on]; rfl
