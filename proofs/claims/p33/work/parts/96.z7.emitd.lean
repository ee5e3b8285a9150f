/-! literals and conditions, written -/
theorem PCo.pos {TT : List Tk} {j j' : Nat} {o o' : Option (Nat × Nat)} {σ : Sg} (h : PCo TT j o σ) (h' : PCo TT j' o' σ) : j = j' := by
  have := h'.1
  rw [h.1] at this
  exact (nI_eq (by have := h.2.2.1; omega) (by have := h'.2.2.1; omega)).mp this
theorem BO.ps0 {b : Nat} (h : BO b) (k : Nat) (v : Int32) (S : PS) : psS b k v S = if k = 25 then (S.1, S.2.1, (S.2.2.1.1, !S.2.2.1.2.1, S.2.2.1.2.2), S.2.2.2) else uniX k v S := by
  rcases h with rfl | rfl <;> rfl
theorem BO.ps2 {b : Nat} (h : BO b) (k : Nat) (v : Int32) (S : PS) (hk : 9 ≤ k ∧ k ≤ 12) : psS (b + 2) k v S = ([], [], (S.2.2.1.1, S.2.2.1.2.1, k, finX S), S.2.2.2) := by
  rcases h with rfl | rfl
  · show (if 9 ≤ k ∧ k ≤ 12 then _ else aftX k S) = _
    rw [if_pos hk]
  · show (if 9 ≤ k ∧ k ≤ 12 then _ else aftX k S) = _
    rw [if_pos hk]
theorem BO.ps5 {b : Nat} (h : BO b) (k : Nat) (v : Int32) (S : PS) : psS (b + 5) k v S = if k = 23 ∨ k = 24 then ([], [], c0X (decide (k = 23)), litX S, S.2.2.2.2) else if k = 22 then ([], [], c0X true, [], litX S, S.2.2.2.2.2) else if k = 4 then ([], [], c0X true, [], [], S.2.2.2.2.2 ++ [(S.2.2.2.2.1, litX S)]) else aftX k S := by
  rcases h with rfl | rfl <;> rfl
theorem fin_of {s w : List Nat} {O' C : Cd} {R : PSr} (hs : sgS s) (hw : sgW w) (h : [] ++ C = O' ++ (enX s ++ enX w)) : finX (s ++ (w ++ []), O', R) = C := by
  unfold finX
  show (coX false (s ++ (w ++ [])) O').2 = C
  rw [co_all hs hw (Or.inl rfl), ← h]
  rfl
def liO (TT : List Tk) (i b : Nat) (D : DT) (o : Bool) (R3 : List Lt × List Lt × List (List Lt × List Lt)) (N : Nat) (σ σ1 : Sg) : Prop := ∃ j l, pr TT j = .inr ((b + 5, 0), D) ∧ PCo TT j (evs TT j) σ1 ∧ i + (ltC l).length ≤ j ∧ ¬ (5 ≤ kdT TT j ∧ kdT TT j ≤ 8) ∧ l.1 = o ∧ litX (psT TT j) = R3.1 ++ [l] ∧ (psT TT j).2.2.2 = R3 ∧ emX N (ltC l) σ σ1
theorem lit_e {TT : List Tk} (hW : WT TT) {n i b N : Nat} {D : DT} {o : Bool} {R3 : List Lt × List Lt × List (List Lt × List Lt)} {σ σ1 : Sg} (hb : BO b) (hC : CQ TT σ) (hP : PCo TT i (evs TT i) σ) (hs : pr TT i = .inr ((b, 0), D)) (hwr : ¬ σ.1 15 3 = 0) (hN : σ.1 3 9 = nI N) (hNi : N ≤ i) (hS : psT TT i = ([], [], c0X o, R3)) (h : RCx PRG n 111 [.ref 15] σ (some (.int 1)) σ1) : liO TT i b D o R3 N σ σ1 := by
  refine h.by (Q := fun v0 σ' => v0 = some (.int 1) → liO TT i b D o R3 N σ σ') (fun m d => ?_) rfl
  have body : ∀ (m : Nat) (nt : Bool) (j : Nat) (σ2 : Sg), i ≤ j → (nt = true → i < j) → FRc σ σ2 → FRe σ σ2 → PCo TT j (evs TT j) σ2 → pr TT j = .inr ((b, 0), D) → ¬ kdT TT j = 25 → psT TT j = ([], [], (o, nt, 0, []), R3) → Pl PRG m d 111 47 [(0, .ref 15), (1, .int (b2i nt))] [] σ2 (fun v0 σ' => v0 = some (.int 1) → liO TT i b D o R3 N σ σ') := by
    intro m nt j σ2 hij hnt f1 fe j4 j3 n25 jS
    have bad : ∀ (m2 : Nat) (σ3 : Sg), Pl PRG m2 d 111 88 [] [] σ3 (fun v0 σ' => v0 = some (.int 1) → liO TT i b D o R3 N σ σ') := fun m2 σ3 => Pl.pos (fun m3 _ => p_111_88 σ3 (fun e => absurd e no01))
    refine Pl.pos (fun m1 _ => p_111_47 σ2 (b2i nt) (fun w2 σ3 h3 hz2 => ⟨fun _ e => absurd e no01, fun z w4 σ5 h5 hz4 => ⟨fun _ => bad m1 σ5, fun z4 w6 σ7 h7 hz6 => ⟨fun _ => bad m1 σ7, fun z6 σ8 h8 => ?_⟩⟩⟩))
    obtain rfl : w2 = 1 := hz2.resolve_left z
    obtain rfl : w6 = 1 := hz6.resolve_left z6
    have hE1 : exP TT j (b + 2) (b + 1) (b + 3) 0 ((b, 0), D) σ2 := ⟨hb.l, by omega, hC.fr f1, j4, j3, by show gs b 0 _ _ = _; rw [hb.gs0, if_neg n25], hb.ne.1, hb.ne.2, hb.ev⟩
    obtain ⟨k1, k2, k3⟩ := expr_c hW m1 j (b + 2) (b + 1) (b + 3) 0 ((b, 0), D) σ2 σ3 1 hE1 h3
    obtain ⟨j', s', w', O', C1, x1, x2, x3, x4, x5, x6, x7, x8⟩ := expr_e hW m1 j (b + 2) (b + 1) (b + 3) 0 ((b, 0), D) σ2 σ3 [] [] ((o, nt, 0, []), R3) N hE1 ⟨fun v S => by show psS b _ _ _ = _; rw [hb.ps0, if_neg n25], by rw [f1.2.2.1]; exact hwr, fe.1.trans hN, by omega, jS⟩ (Or.inl rfl) h3
    have fin1 : finX (psT TT j') = C1 := by rw [x4]; exact fin_of x5 x6 x7
    have t4 : ¬ (5 ≤ kdT TT j' ∧ kdT TT j' ≤ 8) := by
      rcases k3 with ⟨-, j2, -, q2, q3, q4⟩ | ⟨e, -⟩
      · have e := x2.pos q3
        subst e; exact q4
      · exact absurd e (by decide)
    have hkd := (kd_le hW x1).1
    have hga : ∀ len, gs (b + 2) 0 len (kdT TT j') = if 9 ≤ kdT TT j' ∧ kdT TT j' ≤ 12 then .inr (b + 4, 0) else .inl 1 := fun len => by
      rw [hb.gs2]
      unfold ga
      rw [if_neg t4, if_neg (fun e => absurd e.2 (by decide)), if_pos rfl]
    rw [x2.2.1] at h5 h8
    have h5' : RCx PRG m1 101 [.ref 15, .int (clR (nI (kdT TT j')))] σ3 (some (.int w4)) σ5 := h5
    have h8' : RCx PRG m1 108 [.ref 15, .int (clR (nI (kdT TT j'))), .int (0 : Int32)] σ7 none σ8 := h8
    have res : FRc σ3 σ5 ∧ (9 ≤ kdT TT j' ∧ kdT TT j' ≤ 12) ∧ j' < 400 ∧ PCo TT (j' + 1) (evs TT j') σ5 ∧ clR (nI (kdT TT j')) = nI (kdT TT j') := by
      rcases clR_k (kdT TT j') (by omega) with ⟨r1, r2, r3⟩ | ⟨r1, k', r2, r3, r4⟩
      · rw [r3] at h5'
        obtain ⟨l1, l2, l3⟩ := rc101 (k := kdT TT j') hW h5' ((hC.fr f1).fr k1) x2 x1 hkd (fun _ => ⟨(b + 4, 0), by show gs (b + 2) 0 _ _ = _; rw [hga, if_pos ⟨r1, r2⟩]⟩) (fun e => absurd rfl e)
        rcases l3 with ⟨e, q1, q2, q3⟩ | ⟨e, -⟩
        · exact ⟨l1, ⟨r1, r2⟩, q2, q3, r3⟩
        · exact absurd e z4
      · rw [r3] at h5'
        obtain ⟨l1, l2, l3⟩ := rc101 (k := k') hW h5' ((hC.fr f1).fr k1) x2 x1 (by omega) (fun e => absurd e r4) (fun _ => by show gs (b + 2) 0 _ _ = _; rw [hga, if_neg r1])
        rcases l3 with ⟨e, q1, -⟩ | ⟨e, -⟩
        · exact absurd q1 r4
        · exact absurd e z4
    obtain ⟨l1, q1, q2, q3, qc⟩ := res
    have hs2 := pr_next (q := (b + 4, 0)) x1 (by show gs (b + 2) 0 _ _ = _; rw [hga, if_pos q1]) q2
    rw [show updD ((b + 2, 0), D).1.1 (kdT TT j') j' ((b + 2, 0), D).2 = D from upd_id hb.l.ne.1 (by omega) (fun e => by omega)] at hs2
    have ev2 : evs TT (j' + 1) = evs TT j' := by rw [evs_step x1, evO_0 hb.l.eva, orE_none]
    rw [← ev2] at q3
    have hE2 : exP TT (j' + 1) (b + 5) (b + 4) (b + 6) 0 ((b + 4, 0), D) σ5 := ⟨hb.r, by omega, ((hC.fr f1).fr k1).fr l1, q3, hs2, hb.r.gsu _ _ _, hb.r.ne.2.1, hb.r.ne.2.2.2.1, hb.r.evu⟩
    obtain ⟨y1, y2, y3⟩ := expr_c hW m1 (j' + 1) (b + 5) (b + 4) (b + 6) 0 ((b + 4, 0), D) σ5 σ7 1 hE2 h7
    have em5 := (x8.pre fe).fre (te101 h5)
    have F5 := (f1.trans k1).trans l1
    have S2 : psT TT (j' + 1) = ([], [], (o, nt, kdT TT j', C1), R3) := by
      rw [ps_next x1]
      show psS (b + 2) _ _ _ = _
      rw [hb.ps2 _ _ _ q1, fin1, x4]
    obtain ⟨j2, s2, w2, O2, C2, u1, u2, u3, u4, u5, u6, u7, u8⟩ := expr_e hW m1 (j' + 1) (b + 5) (b + 4) (b + 6) 0 ((b + 4, 0), D) σ5 σ7 [] [] ((o, nt, kdT TT j', C1), R3) (N + C1.length) hE2 ⟨fun v S => hb.r.psu _ v S, by rw [F5.2.2.1]; exact hwr, em5.1, by omega, S2⟩ (Or.inl rfl) h7
    have fin2 : finX (psT TT j2) = C2 := by rw [u4]; exact fin_of u5 u6 u7
    have t5 : ¬ (5 ≤ kdT TT j2 ∧ kdT TT j2 ≤ 8) := by
      rcases y3 with ⟨-, j3, -, q2, q3, q4⟩ | ⟨e, -⟩
      · have e := u2.pos q3
        subst e; exact q4
      · exact absurd e (by decide)
    have u2' := u2.2.2.1
    have F7 := F5.trans y1
    have em7 := em5.app u8
    rw [qc] at h8'
    have l12 : (C1 ++ C2).length = C1.length + C2.length := List.length_append
    have em8 := em7.app (em108 h8' (by rw [F7.2.2.1]; exact hwr) em7.1 (by rw [l12]; omega))
    obtain ⟨b1, b2, b3⟩ := rc108 h8'
    have l13 : ((C1 ++ C2) ++ [(kdT TT j', (0 : Int32))]).length = C1.length + C2.length + 1 := by rw [List.length_append, l12]; rfl
    have good : ∀ (m2 : Nat) (σ9 : Sg) (X : Cd), PCo TT j2 (evs TT j2) σ9 → X = ltC (o, nt, kdT TT j', C1, C2) → X.length = C1.length + C2.length + 1 + (if nt = true then 1 else 0) → emX N X σ σ9 → Pl PRG m2 d 111 107 [] [] σ9 (fun v0 σ' => v0 = some (.int 1) → liO TT i b D o R3 N σ σ') := fun m2 σ9 X g3 gX gl gE => Pl.pos (fun m3 _ => p_111_107 σ9 (fun _ => by
      refine ⟨j2, (o, nt, kdT TT j', C1, C2), u1, g3, ?_, t5, rfl, ?_, ?_, by rw [← gX]; exact gE⟩
      · rw [← gX, gl]
        cases hn : nt with
        | true => rw [if_pos rfl]; have := hnt hn; omega
        | false => rw [if_neg (by decide)]; omega
      · unfold litX
        rw [fin2, u4]
      · rw [u4]))
    refine ⟨fun c => good m1 σ8 _ (u2.same b3) ?_ ?_ em8, fun c σ9 h9 => ?_⟩
    · rw [b2i_0.mp c]
      show (C1 ++ C2) ++ [(kdT TT j', (0 : Int32))] = C1 ++ (C2 ++ ((kdT TT j', 0) :: (if false = true then [(25, 0)] else [])))
      rw [if_neg (by decide), List.append_assoc]
    · rw [l13, b2i_0.mp c, if_neg (by decide)]
    · have nt1 : nt = true := by
        cases hn : nt with
        | true => rfl
        | false => rw [hn] at c; exact absurd rfl c
      obtain ⟨b1', b2', b3'⟩ := rc108 h9
      rw [show (25 : Int32) = nI 25 by decide] at h9
      have hlt := hnt nt1
      have em9 := em8.app (em108 h9 (by rw [(F7.trans b1).2.2.1]; exact hwr) em8.1 (by rw [l13]; omega))
      refine good m1 σ9 _ ((u2.same b3).same b3') ?_ ?_ em9
      · rw [nt1]
        show ((C1 ++ C2) ++ [(kdT TT j', (0 : Int32))]) ++ [(25, 0)] = C1 ++ (C2 ++ ((kdT TT j', 0) :: (if true = true then [(25, 0)] else [])))
        rw [if_pos rfl, List.append_assoc, List.append_assoc]
        rfl
      · rw [List.length_append, l13, nt1, if_pos rfl]
        rfl
  have loop : ∀ (m : Nat) (kk j : Nat) (nt : Bool) (σ2 : Sg), kk ≤ j → i ≤ j → (nt = true → i < j) → FRc σ σ2 → FRe σ σ2 → PCo TT j (evs TT j) σ2 → pr TT j = .inr ((b, 0), D) → psT TT j = ([], [], (o, nt, 0, []), R3) → Pl PRG m d 111 4 [(0, .ref 15), (1, .int (b2i nt)), (2, .int (nI kk))] [] σ2 (fun v0 σ' => v0 = some (.int 1) → liO TT i b D o R3 N σ σ') := by
    intro m
    induction m using Nat.strongRecOn with
    | _ m ihm =>
      intro kk j nt σ2 hkk hij hnt f1 fe j4 j3 jS
      have hj := j4.2.2.1
      have hkd := (kd_le hW j3).1
      have kI : nI (kdT TT j) = (25 : Int32) ↔ kdT TT j = 25 := nI_eq (b := 25) (by omega) (by decide)
      refine Pl.pos (fun m1 hm1 => p_111_4 σ2 (b2i nt) (nI kk) ⟨fun c1 => absurd c1 (nI_nlt (a := 400) (b := kk) (by omega) (by decide)), fun c1 => ?_⟩)
      rw [j4.2.1]
      refine ⟨fun c2 => ?_, fun c2 => body m1 nt j σ2 hij hnt f1 fe j4 j3 (fun e => c2 (kI.mpr e)) jS⟩
      have e25 := kI.mp c2
      have tk : ∀ (w4 : Int32) (σ3 : Sg), RCx PRG m1 101 [.ref 15, .int (25 : Int32)] σ2 (some (.int w4)) σ3 → ¬ w4 = 0 → Pl PRG m1 d 111 4 [(0, .ref 15), (1, .int (b2i (!nt))), (2, .int (nI kk + (1 : Int32)))] [] σ3 (fun v0 σ' => v0 = some (.int 1) → liO TT i b D o R3 N σ σ') := by
        intro w4 σ3 h3 z
        have hga : ∀ len, gs b 0 len (kdT TT j) = .inr (b, 0) := fun len => by rw [hb.gs0, if_pos e25]
        obtain ⟨l1, l2, l3⟩ := rc101 (k := 25) hW h3 (hC.fr f1) j4 j3 (by decide) (fun _ => ⟨(b, 0), hga _⟩) (fun e => absurd e25 e)
        rcases l3 with ⟨-, q1, q2, q3⟩ | ⟨e, -⟩
        · have hs2 := pr_next (q := (b, 0)) j3 (hga _) q2
          rw [show updD ((b, 0), D).1.1 (kdT TT j) j ((b, 0), D).2 = D from upd_id hb.ne.1 (by omega) (fun e => by omega)] at hs2
          have ev2 : evs TT (j + 1) = evs TT j := by rw [evs_step j3, evO_0 hb.ev, orE_none]
          rw [← ev2] at q3
          rw [nI_1]
          refine ihm m1 (by omega) (kk + 1) (j + 1) (!nt) σ3 (by omega) (by omega) (fun _ => by omega) (f1.trans l1) (fe.trans (te101 h3)) q3 hs2 ?_
          rw [ps_next j3]
          show psS b _ _ _ = _
          rw [hb.ps0, if_pos e25, jS]
        · exact absurd e z
      refine ⟨fun c w4 σ3 h3 _ => ⟨fun _ e => absurd e no01, fun z => ?_⟩, fun c w4 σ3 h3 _ => ⟨fun _ e => absurd e no01, fun z => ?_⟩⟩
      · have := tk w4 σ3 h3 z
        rw [b2i_0.mp c] at this
        exact this
      · have := tk w4 σ3 h3 z
        have nt1 : nt = true := by
          cases hn : nt with
          | true => rfl
          | false => rw [hn] at c; exact absurd rfl c
        rw [nt1] at this
        exact this
  exact p_111_0 σ (loop m 0 i false σ (by omega) (Nat.le_refl i) (fun e => by cases e) (FRc.refl σ) (FRe.refl σ) hP hs hS)
def coO (TT : List Tk) (i b : Nat) (D : DT) (R2 : List Lt × List (List Lt × List Lt)) (N : Nat) (σ σ1 : Sg) : Prop := ∃ j ls, pr TT j = .inr ((b + 5, 0), D) ∧ PCo TT j (evs TT j) σ1 ∧ i + (ccX ls).length ≤ j ∧ litX (psT TT j) = ls ∧ (psT TT j).2.2.2.2 = R2 ∧ emX N (ccX ls) σ σ1
def coJ (TT : List Tk) (i b kk : Nat) (D : DT) (R2 : List Lt × List (List Lt × List Lt)) (N : Nat) (σ0 σ : Sg) (w : Bool) : Prop := FRc σ0 σ ∧ ∃ j ls E, kk < j ∧ pr TT j = .inr ((b + 5, 0), D) ∧ PCo TT j (evs TT j) σ ∧ i + E.length + (if w = true then 1 else 0) ≤ j ∧ ¬ (5 ≤ kdT TT j ∧ kdT TT j ≤ 8) ∧ litX (psT TT j) = ls ∧ (psT TT j).2.2.2.2 = R2 ∧ (∀ more, ccX (ls ++ more) = E ++ cpX w more) ∧ emX N E σ0 σ
theorem cond_e {TT : List Tk} (hW : WT TT) {n i b N : Nat} {D : DT} {R2 : List Lt × List (List Lt × List Lt)} {σ σ1 : Sg} (hb : BO b) (hC : CQ TT σ) (hP : PCo TT i (evs TT i) σ) (hs : pr TT i = .inr ((b, 0), D)) (hwr : ¬ σ.1 15 3 = 0) (hN : σ.1 3 9 = nI N) (hNi : N ≤ i) (hS : psT TT i = ([], [], c0X true, [], R2)) (h : RCx PRG n 112 [.ref 15] σ (some (.int 1)) σ1) : coO TT i b D R2 N σ σ1 := by
  refine h.by (Q := fun v0 σ' => v0 = some (.int 1) → coO TT i b D R2 N σ σ') (fun m d => ?_) rfl
  have f128 : ∀ (m2 : Nat) (σ3 : Sg), Pl PRG m2 d 112 128 [(2, .int (0 : Int32))] [] σ3 (fun v0 σ' => v0 = some (.int 1) → coO TT i b D R2 N σ σ') := fun m2 σ3 => Pl.pos (fun m3 _ => p_112_128 σ3 0 (fun _ e => absurd e no01))
  have dead : ∀ (m : Nat) (kk : Nat) (y : Int32) (σ2 : Sg), Pl PRG m d 112 9 [(0, .ref 15), (1, .int y), (2, .int (0 : Int32)), (3, .int (nI kk))] [] σ2 (fun v0 σ' => v0 = some (.int 1) → coO TT i b D R2 N σ σ') := by
    intro m kk y σ2
    have f117 : ∀ (m2 : Nat), Pl PRG m2 d 112 117 [(0, .ref 15), (1, .int y), (2, .int (0 : Int32))] [] σ2 (fun v0 σ' => v0 = some (.int 1) → coO TT i b D R2 N σ σ') := fun m2 => Pl.pos (fun m3 _ => p_112_117 σ2 y 0 ⟨fun _ => f128 m3 σ2, fun _ σ3 _ => f128 m3 σ3⟩)
    exact Pl.pos (fun m1 _ => p_112_9 σ2 y 0 (nI kk) ⟨fun _ => f117 m1, fun _ => ⟨fun _ => f117 m1, fun c => absurd rfl c⟩⟩)
  have ends : ∀ (m : Nat) (w : Bool) (kk : Nat) (σ2 : Sg), coJ TT i b kk D R2 N σ σ2 w → Pl PRG m d 112 117 [(0, .ref 15), (1, .int (b2i w)), (2, .int (1 : Int32))] [] σ2 (fun v0 σ' => v0 = some (.int 1) → coO TT i b D R2 N σ σ') := by
    intro m w kk σ2 hI
    obtain ⟨f1, j, ls, E, j1, j3, j4, j5, j6, j7, j8, j9, j10⟩ := hI
    have e0 := j9 []
    rw [List.append_nil] at e0
    refine Pl.pos (fun m2 _ => p_112_117 σ2 (b2i w) 1 ⟨fun c => ?_, fun c σ3 h3 => ?_⟩)
    · rw [b2i_0.mp c] at e0 j5
      have e1 : ccX ls = E := e0.trans (List.append_nil E)
      exact Pl.pos (fun m3 _ => p_112_128 σ2 1 (fun _ _ => ⟨j, ls, j3, j4, by rw [e1]; rw [if_neg (by decide)] at j5; exact j5, j7, j8, by rw [e1]; exact j10⟩))
    · have w1 : w = true := by
        cases hn : w with
        | true => rfl
        | false => rw [hn] at c; exact absurd rfl c
      rw [w1] at e0 j5
      rw [if_pos rfl] at j5
      have e1 : ccX ls = E ++ [(23, 0)] := e0
      obtain ⟨b1, b2, b3⟩ := rc108 h3
      rw [show (23 : Int32) = nI 23 by decide] at h3
      have hj4 := j4.2.2.1
      have em := j10.app (em108 h3 (by rw [f1.2.2.1]; exact hwr) j10.1 (by omega))
      refine Pl.pos (fun m3 _ => p_112_128 σ3 1 (fun _ _ => ⟨j, ls, j3, j4.same b3, ?_, j7, j8, by rw [e1]; exact em⟩))
      rw [e1, List.length_append]
      exact j5
  have loop : ∀ (m : Nat) (kk : Nat) (w : Bool) (σ2 : Sg), kk ≤ 400 → coJ TT i b kk D R2 N σ σ2 w → Pl PRG m d 112 9 [(0, .ref 15), (1, .int (b2i w)), (2, .int (1 : Int32)), (3, .int (nI kk))] [] σ2 (fun v0 σ' => v0 = some (.int 1) → coO TT i b D R2 N σ σ') := by
    intro m
    induction m using Nat.strongRecOn with
    | _ m ihm =>
      intro kk w σ2 hkk hI
      refine Pl.pos (fun m1 hm1 => p_112_9 σ2 (b2i w) 1 (nI kk) ⟨fun c1 => ends m1 w kk σ2 hI, fun c1 => ⟨fun c2 => absurd c2 (by decide), fun _ => ?_⟩⟩)
      have hI0 := hI
      obtain ⟨f1, j, ls, E, j1, j3, j4, j5, j6, j7, j8, j9, j10⟩ := hI
      have hkk4 : kk < 400 := nle_of (a := 400) (b := kk) (by decide) (by omega) c1
      have hkd := (kd_le hW j3).1
      have hj4 := j4.2.2.1
      rw [j4.2.1]
      have kI : ∀ k, k ≤ 36 → (nI (kdT TT j) = nI k ↔ kdT TT j = k) := fun k hk => nI_eq (by omega) (by omega)
      have back : ∀ (m2 : Nat), m2 < m → ∀ (w2 : Bool) (σ3 : Sg), coJ TT i b (kk + 1) D R2 N σ σ3 w2 → Pl PRG m2 d 112 111 [(0, .ref 15), (1, .int (b2i w2)), (2, .int (1 : Int32)), (3, .int (nI kk))] [] σ3 (fun v0 σ' => v0 = some (.int 1) → coO TT i b D R2 N σ σ') := fun m2 hm2 w2 σ3 hI3 => Pl.pos (fun m3 hm3 => p_112_111 σ3 (b2i w2) 1 (nI kk) (by
        rw [nI_1]
        exact ihm m3 (by omega) (kk + 1) w2 σ3 (by omega) hI3))
      have low : ∀ (m2 : Nat) (y2 x4 : Int32) (σ3 : Sg), Pl PRG m2 d 112 92 [(0, .ref 15), (1, .int y2), (3, .int (nI kk)), (4, .int x4)] [] σ3 (fun v0 σ' => v0 = some (.int 1) → coO TT i b D R2 N σ σ') := by
        intro m2 y2 x4 σ3
        have b111 : ∀ (m3 : Nat) (y3 : Int32) (σ4 : Sg), Pl PRG m3 d 112 111 [(0, .ref 15), (1, .int y3), (2, .int (0 : Int32)), (3, .int (nI kk))] [] σ4 (fun v0 σ' => v0 = some (.int 1) → coO TT i b D R2 N σ σ') := fun m3 y3 σ4 => Pl.pos (fun m4 _ => p_112_111 σ4 y3 0 (nI kk) (by
          rw [nI_1]
          exact dead m4 (kk + 1) y3 σ4))
        exact Pl.pos (fun m3 hm3 => p_112_92 σ3 y2 (nI kk) x4 ⟨fun _ => b111 m3 _ σ3, fun _ σ4 _ => b111 m3 _ σ4⟩)
      -- the sign is taken: E1 stands, w stays
      have op : ∀ (m2 : Nat), m2 < m → ∀ (x4 : Int32) (σ3 : Sg) (E1 : Cd), (kdT TT j = 23 ∨ kdT TT j = 24) → FRc σ σ3 → PCo TT j (evs TT j) σ3 → emX N E1 σ σ3 → N + E1.length ≤ j → (∀ (m3 : Nat), m3 < m → ∀ (j' : Nat) (l : Lt) (σ5 : Sg), FRc σ σ5 → pr TT j' = .inr ((b + 5, 0), D) → PCo TT j' (evs TT j') σ5 → j + 1 + (ltC l).length ≤ j' → ¬ (5 ≤ kdT TT j' ∧ kdT TT j' ≤ 8) → l.1 = decide (kdT TT j = 23) → litX (psT TT j') = ls ++ [l] → (psT TT j').2.2.2.2 = R2 → emX N (E1 ++ ltC l) σ σ5 → ((x4 = 0 → Pl PRG m3 d 112 111 [(0, .ref 15), (1, .int (1 : Int32)), (2, .int (1 : Int32)), (3, .int (nI kk))] [] σ5 (fun v0 σ' => v0 = some (.int 1) → coO TT i b D R2 N σ σ')) ∧ (¬ x4 = 0 → ∀ σ6, RCx PRG m3 108 [.ref 15, .int (24 : Int32), .int (0 : Int32)] σ5 none σ6 → Pl PRG m3 d 112 111 [(0, .ref 15), (1, .int (b2i w)), (2, .int (1 : Int32)), (3, .int (nI kk))] [] σ6 (fun v0 σ' => v0 = some (.int 1) → coO TT i b D R2 N σ σ')))) → Pl PRG m2 d 112 70 [(0, .ref 15), (1, .int (b2i w)), (3, .int (nI kk)), (4, .int x4)] [] σ3 (fun v0 σ' => v0 = some (.int 1) → coO TT i b D R2 N σ σ') := by
        intro m2 hm2 x4 σ3 E1 hk g1 g3 gE gN go
        refine Pl.pos (fun m3 hm3 => p_112_70 σ3 (b2i w) (nI kk) x4 (fun w2 σ4 h4 _ => ⟨fun _ => low m3 _ x4 σ4, fun z w4 σ5 h5 hz4 => ⟨fun _ => low m3 _ x4 σ5, fun z4 => ?_⟩⟩))
        rw [g3.2.1] at h4
        have hga : ∀ len, gs (b + 5) 0 len (kdT TT j) = .inr (b, 0) := fun len => by
          rw [hb.gs5]
          unfold ga
          rw [if_neg j6, if_neg (fun e => absurd e.2 (by decide)), if_pos rfl, if_pos hk]
        obtain ⟨l1, l2, l3⟩ := rc101 (k := kdT TT j) hW h4 (hC.fr g1) g3 j3 hkd (fun _ => ⟨(b, 0), hga _⟩) (fun e => absurd rfl e)
        rcases l3 with ⟨e', q1, q2, q3⟩ | ⟨e', -⟩
        · have hs2 := pr_next (q := (b, 0)) j3 (hga _) q2
          rw [show updD ((b + 5, 0), D).1.1 (kdT TT j) j ((b + 5, 0), D).2 = D from upd_id hb.r.ne.1 (by omega) (fun e => by omega)] at hs2
          have ev2 : evs TT (j + 1) = evs TT j := by rw [evs_step j3, evO_0 hb.r.eva, orE_none]
          rw [← ev2] at q3
          obtain rfl : w4 = 1 := hz4.resolve_left z4
          have fk := (lit_c hW hb ((hC.fr g1).fr l1) q3 hs2 h5).1
          have em4 := gE.fre (te101 h4)
          have S2 : psT TT (j + 1) = ([], [], c0X (decide (kdT TT j = 23)), ls, R2) := by
            rw [ps_next j3]
            show psS (b + 5) _ _ _ = _
            rw [hb.ps5, if_pos hk, j7, j8]
          obtain ⟨j', l, y1, y2, y3, y4, y5, y6, y7, y8⟩ := lit_e hW (N := N + E1.length) hb ((hC.fr g1).fr l1) q3 hs2 (by rw [(g1.trans l1).2.2.1]; exact hwr) em4.1 (by omega) S2 h5
          exact go m3 (by omega) j' l σ5 ((g1.trans l1).trans fk) y1 y2 y3 y4 y5 y6 (by rw [y7]) (em4.app y8)
        · exact absurd e' z
      refine ⟨fun c3 => ?_, fun c3 => ⟨fun c4 => ?_, fun c4 => ends m1 w kk σ2 hI0⟩⟩
      · have e24 := (kI 24 (by decide)).mp c3
        refine Pl.pos (fun m2 hm2 => p_112_38 σ2 (b2i w) (nI kk) ⟨fun _ => ?_, fun c => absurd (by rw [j4.2.1]; exact c3) c⟩)
        refine op m2 (by omega) 1 σ2 E (Or.inr e24) f1 j4 j10 (by omega) (fun m3 hm3 j' l σ5 x1 x2 x3 x4 x5 x6 x7 x8 x9 => ⟨fun e => absurd e (by decide), fun _ σ6 h6 => ?_⟩)
        obtain ⟨b1, b2, b3⟩ := rc108 h6
        rw [show (24 : Int32) = nI 24 by decide] at h6
        have x3' := x3.2.2.1
        have hl : (E ++ ltC l).length = E.length + (ltC l).length := List.length_append
        have em := x9.app (em108 h6 (by rw [x1.2.2.1]; exact hwr) x9.1 (by rw [hl]; omega))
        have lf : l.1 = false := by rw [x6, decide_eq_false (by omega)]
        refine back m3 hm3 w σ6 ⟨x1.trans b1, j', ls ++ [l], (E ++ ltC l) ++ [(24, 0)], by omega, x2, x3.same b3, ?_, x5, x7, x8, fun more => ?_, em⟩
        · rw [List.length_append, hl]
          show i + (E.length + (ltC l).length + 1) + _ ≤ j'
          omega
        · rw [List.append_assoc]
          have := j9 ([l] ++ more)
          rw [this]
          show E ++ (if l.1 = true then _ else ltC l ++ ((24, 0) :: cpX w more)) = _
          rw [lf, if_neg (by decide), List.append_assoc, List.append_assoc]
          rfl
      · have e23 := (kI 23 (by decide)).mp c4
        have go : ∀ (E1 : Cd), E1 = E ++ (if w = true then [(23, 0)] else []) → i + E1.length ≤ j → ∀ (m3 : Nat), m3 < m → ∀ (j' : Nat) (l : Lt) (σ5 : Sg), FRc σ σ5 → pr TT j' = .inr ((b + 5, 0), D) → PCo TT j' (evs TT j') σ5 → j + 1 + (ltC l).length ≤ j' → ¬ (5 ≤ kdT TT j' ∧ kdT TT j' ≤ 8) → l.1 = decide (kdT TT j = 23) → litX (psT TT j') = ls ++ [l] → (psT TT j').2.2.2.2 = R2 → emX N (E1 ++ ltC l) σ σ5 → (((0 : Int32) = 0 → Pl PRG m3 d 112 111 [(0, .ref 15), (1, .int (1 : Int32)), (2, .int (1 : Int32)), (3, .int (nI kk))] [] σ5 (fun v0 σ' => v0 = some (.int 1) → coO TT i b D R2 N σ σ')) ∧ (¬ (0 : Int32) = 0 → ∀ σ6, RCx PRG m3 108 [.ref 15, .int (24 : Int32), .int (0 : Int32)] σ5 none σ6 → Pl PRG m3 d 112 111 [(0, .ref 15), (1, .int (b2i w)), (2, .int (1 : Int32)), (3, .int (nI kk))] [] σ6 (fun v0 σ' => v0 = some (.int 1) → coO TT i b D R2 N σ σ'))) := by
          intro E1 hE1 hl1 m3 hm3 j' l σ5 x1 x2 x3 x4 x5 x6 x7 x8 x9
          refine ⟨fun _ => ?_, fun e => absurd rfl e⟩
          have lt : l.1 = true := by rw [x6, decide_eq_true e23]
          refine back m3 hm3 true σ5 ⟨x1, j', ls ++ [l], E1 ++ ltC l, by omega, x2, x3, ?_, x5, x7, x8, fun more => ?_, x9⟩
          · rw [List.length_append, if_pos rfl]
            omega
          · rw [List.append_assoc]
            have := j9 ([l] ++ more)
            rw [this]
            show E ++ (if l.1 = true then (if w = true then [(23, 0)] else []) ++ (ltC l ++ cpX true more) else _) = _
            rw [lt, if_pos rfl, hE1, List.append_assoc, List.append_assoc]
        refine Pl.pos (fun m2 hm2 => p_112_38 σ2 (b2i w) (nI kk) ⟨fun c => absurd (by rw [← j4.2.1]; exact c) c3, fun _ => ⟨fun c => ?_, fun c σ3 h3 => ?_⟩⟩)
        · have w0 := b2i_0.mp c
          have e1 : E = E ++ (if w = true then [(23, 0)] else []) := by rw [w0, if_neg (by decide), List.append_nil]
          exact op m2 (by omega) 0 σ2 E (Or.inl e23) f1 j4 j10 (by omega) (go E e1 (by omega))
        · have w1 : w = true := by
            cases hn : w with
            | true => rfl
            | false => rw [hn] at c; exact absurd rfl c
          obtain ⟨b1, b2, b3⟩ := rc108 h3
          rw [show (23 : Int32) = nI 23 by decide] at h3
          rw [w1, if_pos rfl] at j5
          have em := j10.app (em108 h3 (by rw [f1.2.2.1]; exact hwr) j10.1 (by omega))
          have hl : (E ++ [(23, (0 : Int32))]).length = E.length + 1 := by rw [List.length_append]; rfl
          exact op m2 (by omega) 0 σ3 (E ++ [(23, 0)]) (Or.inl e23) (f1.trans b1) (j4.same b3) em (by rw [hl]; omega) (go _ (by rw [w1, if_pos rfl]) (by rw [hl]; omega))
  refine p_112_0 σ (fun w2 σ2 h2 hz => ?_)
  rcases hz with rfl | rfl
  · exact dead m 0 0 σ2
  · have fk := (lit_c hW hb hC hP hs h2).1
    obtain ⟨j, l, y1, y2, y3, y4, y5, y6, y7, y8⟩ := lit_e hW hb hC hP hs hwr hN hNi hS h2
    have hij : 0 < j := by
      have : 0 < (ltC l).length := by
        unfold ltC
        rw [List.length_append, List.length_append]
        show 0 < _ + (_ + (_ + 1))
        omega
      omega
    refine loop m 0 false σ2 (by omega) ⟨fk, j, [l], ltC l, hij, y1, y2, by rw [if_neg (by decide)]; exact y3, y4, y6, by rw [y7], fun more => rfl, y8⟩
