/-! promises by cases; numberOfTrailingZeros -/
/-- what one promise says behind a call is no more than another's -/
def postLe (sp sp' : SP) : Bool := subM (spMods sp) (spMods sp') && (Nat.ble (spD sp) (spD sp') && (Nat.beq (spBt sp') 0 && ((match spRes sp, spRes sp' with
  | none, none => true
  | some t, some t' => Nat.beq t.1 t'.1 && (if Nat.beq t.1 0 then decide (t'.2.1 ≤ t.2.1 ∧ t.2.2 ≤ t'.2.2) else if Nat.beq t.1 1 then decide (t.2.1 = t'.2.1) else true)
  | _, _ => false) && ((spImp sp').all (fun u => (spImp sp).any (fun t => Nat.beq t.1 u.1 && decide (u.2.1 ≤ t.2.1 ∧ t.2.2 ≤ u.2.2))) && (spPost sp').all (fun u => (spPost sp).any (fun t => Nat.beq t.1 u.1 && (Nat.beq t.2.1 u.2.1 && decide (u.2.2.1 ≤ t.2.2.1 ∧ t.2.2.2 ≤ u.2.2.2))))))))
theorem postLe_ok {TY : List (List SEG)} {I : Sg → Prop} {sp sp' : SP} {av : List Value} {σ σ' : Sg} {v : Option Value} (h : postLe sp sp' = true) (hq : spQ TY I sp av σ v σ') : spQ TY I sp' av σ v σ' := by
  unfold postLe at h
  simp only [Bool.and_eq_true] at h
  obtain ⟨h1, h2, h3, h4, h5, h6⟩ := h
  obtain ⟨⟨q1, q2, q3⟩, q4, q5, q6, q7⟩ := hq
  refine ⟨⟨q1, q2, frame_tr (fun _ _ _ _ _ => rfl) q3 h1⟩, ?_, ?_, ?_, fun h2 => by rw [Nat.eq_of_beq_eq_true h3] at h2; omega⟩
  · unfold resOK at q4 ⊢
    split at h4
    · rename_i e1 e2
      rw [e1] at q4
      rw [e2]
      exact q4
    · rename_i t t' e1 e2
      rw [e1] at q4
      rw [e2]
      cases v with
      | none => exact False.elim q4
      | some w =>
        have q4 : avOK t w := q4
        show avOK t' w
        obtain ⟨t0, t1, t2⟩ := t
        obtain ⟨u0, u1, u2⟩ := t'
        simp only [Bool.and_eq_true] at h4
        have e0 := Nat.eq_of_beq_eq_true h4.1
        have e0 : t0 = u0 := e0
        subst e0
        have h42 := h4.2
        unfold avOK at q4 ⊢
        simp only at q4 ⊢
        split at q4
        · obtain ⟨x, rfl, k1, k2⟩ := q4
          simp only [Nat.beq_refl, if_true] at h42
          have := of_decide_eq_true h42
          exact ⟨x, rfl, by omega, by omega⟩
        · obtain ⟨q, rfl, k1⟩ := q4
          have h9 : t1 = u1 := by simpa [Nat.beq] using h42
          rw [← h9]
          exact ⟨q, rfl, k1⟩
        · exact q4
        · exact q4
    · cases h4
  · intro w hw hne
    obtain ⟨i1, i2⟩ := q5 w hw hne
    refine ⟨?_, fun e => by rw [e] at h3; cases h3⟩
    intro u hu
    obtain ⟨t, ht, hc⟩ := List.any_eq_true.mp (List.all_eq_true.mp h5 u hu)
    simp only [Bool.and_eq_true, decide_eq_true_eq] at hc
    obtain ⟨y, k1, k2, k3⟩ := i1 t ht
    rw [Nat.eq_of_beq_eq_true hc.1] at k1
    exact ⟨y, k1, by omega, by omega⟩
  · intro u hu
    obtain ⟨t, ht, hc⟩ := List.any_eq_true.mp (List.all_eq_true.mp h6 u hu)
    simp only [Bool.and_eq_true, decide_eq_true_eq] at hc
    obtain ⟨q, k1, k2, k3⟩ := q6 t ht
    rw [Nat.eq_of_beq_eq_true hc.1] at k1
    rw [Nat.eq_of_beq_eq_true hc.2.1] at k2 k3
    exact ⟨q, k1, by omega, by omega⟩
theorem SpecOK.cases {P : List MI} {TY : List (List SEG)} {I : Sg → Prop} {mi : Nat} {sps : List SP} {sp' : SP} (hmi : mi < 1000) (hall : ∀ sp ∈ sps, SpecOK P TY I mi sp) (hle : sps.all (fun sp => postLe sp sp') = true)
    (hcov : ∀ av σ, typed TY σ → I σ → avsOK (spArgs sp') av → (∀ p ∈ spPre sp', fdOK av σ p) → (∀ p ∈ spPhi sp', phOK av σ p) → ∃ sp ∈ sps, avsOK (spArgs sp) av ∧ (∀ p ∈ spPre sp, fdOK av σ p) ∧ ∀ p ∈ spPhi sp, phOK av σ p) : SpecOK P TY I mi sp' := by
  refine ⟨hmi, fun av σ ht hI hav hpre hph => ?_⟩
  obtain ⟨sp, h1, h2, h3, h4⟩ := hcov av σ ht hI hav hpre hph
  have hl := List.all_eq_true.mp hle sp h1
  have hd : spD sp ≤ spD sp' := by
    unfold postLe at hl
    simp only [Bool.and_eq_true] at hl
    exact Nat.le_of_ble_eq_true hl.2.1
  exact (((hall sp h1).2 av σ ht hI h2 h3 h4).deep hd).mono (fun v σ' hq => postLe_ok hl hq)
/-- cases by a field of the first value -/
theorem SpecOK.byField {P : List MI} {TY : List (List SEG)} {I : Sg → Prop} {mi : Nat} {sps : List SP} {sp' : SP} (k lo κ : Nat) (ts : List (Nat × Int × Int)) (hmi : mi < 1000) (hall : ∀ sp ∈ sps, SpecOK P TY I mi sp) (hle : sps.all (fun sp => postLe sp sp') = true) (ha' : spArgs sp' = (1, (κ : Int), 0) :: ts) (hp' : spPre sp' = []) (hrg : ldRg TY κ k k = ((lo : Int), (lo : Int) + sps.length - 1))
    (hsp : (List.range sps.length).all (fun i => match sps[i]? with
      | some sp => decide (spArgs sp = (1, (κ : Int), 0) :: ts) && (decide (spPre sp = [(0, k, ((lo + i : Nat) : Int), ((lo + i : Nat) : Int))]) && decide (spPhi sp = []))
      | none => false) = true) : SpecOK P TY I mi sp' := by
  refine SpecOK.cases hmi hall hle (fun av σ ht hI hav hpre _ => ?_)
  rw [ha'] at hav
  cases av with
  | nil => cases hav.1
  | cons v av =>
    obtain ⟨h0, -⟩ := avs_tl hav
    obtain ⟨q, rfl, hq⟩ := h0
    have hr := ldRg_ok ht hq (Nat.le_refl k) (Nat.le_refl k)
    simp only [Int.toNat_natCast] at hr
    rw [hrg] at hr
    simp only at hr
    have hlt : ((σ.1 q k).toInt - lo).toNat < sps.length := by omega
    have hs : sps[((σ.1 q k).toInt - lo).toNat]? = some sps[((σ.1 q k).toInt - lo).toNat] := List.getElem?_eq_getElem hlt
    have hc := List.all_eq_true.mp hsp _ (List.mem_range.mpr hlt)
    simp only [hs, Bool.and_eq_true, decide_eq_true_eq] at hc
    refine ⟨_, List.mem_of_getElem? hs, by rw [hc.1]; exact hav, ?_, by rw [hc.2.2]; exact fun _ h => absurd h List.not_mem_nil⟩
    rw [hc.2.1]
    intro p hp
    rw [List.mem_singleton.mp hp]
    refine ⟨q, rfl, ?_, ?_⟩
    · simp only; omega
    · simp only; omega
/-- the lowest zeros of 1 .. 65535 -/
theorem low_bits {x : Int32} (h1 : 1 ≤ x.toInt) (h2 : x.toInt ≤ 65535) : 0 ≤ ((x ^^^ (-1)) &&& (x - 1)).toInt ∧ ((x ^^^ (-1)) &&& (x - 1)).toInt ≤ 32767 := by
  have hs : (x - 1).toInt = x.toInt - 1 := sub_ex (y := 1) (by have : (1 : Int32).toInt = 1 := rfl; unfold FL; omega) (by have : (1 : Int32).toInt = 1 := rfl; unfold FH; omega)
  have ha := and_nn2 (x := x ^^^ (-1)) (y := x - 1) (by omega)
  refine ⟨ha.1, ?_⟩
  obtain ⟨t1, t2⟩ := tn_nn (x := x) (by omega)
  obtain ⟨s1, s2⟩ := tn_nn (x := x - 1) (by omega)
  obtain ⟨r1, r2⟩ := tn_nn (x := (x ^^^ (-1)) &&& (x - 1)) ha.1
  by_cases hlt : (x - 1).toInt ≤ 32767
  · omega
  · have hn : ((x ^^^ (-1)) &&& (x - 1)).toBitVec.toNat < 2 ^ 15 := by
      apply Nat.lt_pow_two_of_testBit
      intro i hi
      show ((x.toBitVec ^^^ (-1 : Int32).toBitVec) &&& (x - 1).toBitVec).toNat.testBit i = false
      rw [BitVec.toNat_and, Nat.testBit_and]
      by_cases h15 : i = 15
      · subst h15
        rw [BitVec.toNat_xor, Nat.testBit_xor]
        have e1 : x.toBitVec.toNat.testBit 15 = true := by
          rw [Nat.testBit_eq_decide_div_mod_eq]
          have : x.toBitVec.toNat / 2 ^ 15 = 1 := by omega
          rw [this]
          rfl
        have e2 : ((-1 : Int32).toBitVec.toNat).testBit 15 = true := by decide
        rw [e1, e2]
        rfl
      · have : (x - 1).toBitVec.toNat.testBit i = false := by
          apply Nat.testBit_lt_two_pow
          calc (x - 1).toBitVec.toNat < 2 ^ 16 := by omega
            _ ≤ 2 ^ i := Nat.pow_le_pow_right (by decide) (by omega)
        rw [this, Bool.and_false]
    omega
def sp_1 : SP := ([(0, 1, 65535)], [], some (0, 0, 15), [], [], [], 0, 0, [])
set_option maxRecDepth 100000 in
theorem c_1 {I : Sg → Prop} (hI : stab I DEP) : SpecOK PRG TYP I 1 sp_1 := by
  refine ⟨by decide, fun av σ ht hIs hav _ _ => ⟨M_1, rfl, ?_, ?_⟩⟩
  · rw [slots_ok hav]; decide
  · have hlen := hav.1
    obtain ⟨v, rfl⟩ : ∃ v, av = [v] := by
      cases av with
      | nil => cases hlen
      | cons v r => cases r with
        | nil => exact ⟨v, rfl⟩
        | cons w r => cases hlen
    obtain ⟨x, rfl, h1, h2⟩ := hav.2 0 _ _ rfl rfl
    simp only at h1 h2
    have hlb := low_bits h1 h2
    refine Rn.step (M := M_1) (en := _) rfl rfl rfl ?_
    refine Rn.step (M := M_1) (en := _) rfl rfl rfl ?_
    refine Rn.step (M := M_1) (en := _) rfl rfl rfl ?_
    refine Rn.step (M := M_1) (en := _) rfl rfl rfl ?_
    refine Rn.step (M := M_1) (en := _) rfl rfl rfl ?_
    refine Rn.step (M := M_1) (en := _) rfl rfl rfl ?_
    refine Rn.step (M := M_1) (en := _) rfl rfl rfl ?_
    refine Rn.step (M := M_1) (en := _) rfl rfl rfl ?_
    generalize hz : ((x ^^^ (-1)) &&& (x - 1)) = z at hlb
    have hG : Glo TYP I (spMods sp_1) σ σ := ⟨ht, hIs, fun _ _ _ _ _ => rfl⟩
    refine Rn.mono (Q := fun v σ9 => spQ TYP I sp_1 [.int x] σ v σ9 ∧ True) ?_ (fun _ _ h => h.1)
    refine exA_ok noW_ok noL_ok (X := fun _ => True) (xr := fun _ => true) (fun _ _ _ _ _ _ _ => trivial) (ρ0 := [.int z]) (env := []) (cuts := []) (argS := []) (mA := none) (M0 := M_1) (dep := DEP) rfl (fun _ h => absurd h List.not_mem_nil) hI (fun _ h => absurd h List.not_mem_nil) (fun _ h => absurd h List.not_mem_nil) (fun m hm => by cases hm) (fun _ h => absurd h List.not_mem_nil) 400 8 ([(0, 0, 32767, 0, 0, [])], [(0, 0)], [], []) (by decide +kernel) [.int z] _ [] σ ?_ hG
    refine ⟨rfl, ?_, ?_, rfl, fun _ h => absurd h List.not_mem_nil, [], by simp⟩
    · intro s si hs
      cases s with
      | zero =>
        cases hs
        exact ⟨_, rfl, z, rfl, hlb.1, hlb.2, ⟨z.toInt, ⟨z, rfl, rfl⟩, by simp⟩, fun _ t ht => absurd ht List.not_mem_nil⟩
      | succ s => cases hs
    · intro p hp
      rw [List.mem_singleton.mp hp]
      refine ⟨.int z, ?_, rfl⟩
      rw [← hz]
      rfl
