/-! the pack stands: what the test may take from it -/
def PKi (σ : Sg) : Prop := 0 ≤ (σ.1 97 18).toInt ∧ (σ.1 97 18).toInt ≤ 1 ∧ ∃ N, pack N σ
def DEPR : List (Nat × Nat × Nat) := [(12, 18, 18), (62, 0, 1), (63, 0, 1)]
theorem pack_of {N : Nat} {σ σ' : Sg} (h1 : σ'.1 97 18 = σ.1 97 18) (h2 : σ'.1 106 (σ.1 97 18).toNatClampNeg = σ.1 106 (σ.1 97 18).toNatClampNeg) (h3 : σ'.1 107 (σ.1 97 18).toNatClampNeg = σ.1 107 (σ.1 97 18).toNatClampNeg) (h : pack N σ) : pack N σ' := by
  unfold pack
  rw [h1, h2, h3]
  exact h
theorem stabPK : stab PKi DEPR := by
  refine ⟨fun σ q κ k x hq hk hI => ?_, fun σ q k x hI => hI⟩
  obtain ⟨a, b, N, hN⟩ := hI
  have hc : (σ.1 97 18).toNatClampNeg = (σ.1 97 18).toInt.toNat := rfl
  have e1 : (s1 σ q k x).1 97 18 = σ.1 97 18 := s1_off (fun ⟨h1, h2⟩ => by
    subst h1; subst h2
    have : κ = 12 := by have h3 : kdn 97 = some 12 := rfl
                        rw [h3] at hq; cases hq; rfl
    subst this
    cases hk)
  have e2 : (s1 σ q k x).1 106 (σ.1 97 18).toNatClampNeg = σ.1 106 (σ.1 97 18).toNatClampNeg := s1_off (fun ⟨h1, h2⟩ => by
    subst h1
    have : κ = 62 := by have h3 : kdn 106 = some 62 := rfl
                        rw [h3] at hq; cases hq; rfl
    subst this
    have : k = 0 ∨ k = 1 := by omega
    rcases this with rfl | rfl <;> cases hk)
  have e3 : (s1 σ q k x).1 107 (σ.1 97 18).toNatClampNeg = σ.1 107 (σ.1 97 18).toNatClampNeg := s1_off (fun ⟨h1, h2⟩ => by
    subst h1
    have : κ = 63 := by have h3 : kdn 107 = some 63 := rfl
                        rw [h3] at hq; cases hq; rfl
    subst this
    have : k = 0 ∨ k = 1 := by omega
    rcases this with rfl | rfl <;> cases hk)
  exact ⟨by rw [e1]; exact a, by rw [e1]; exact b, N, pack_of e1 e2 e3 hN⟩
theorem kdn_one {κ c : Nat} (hall : (List.range LAY.length).all (fun q => decide (¬ kdn q = some κ) || Nat.beq q c) = true) {q : Nat} (hq : kdn q = some κ) : q = c := by
  have hlt : q < LAY.length := by
    unfold kdn at hq
    cases hl : LAY[q]? with
    | none => rw [hl] at hq; cases hq
    | some z => exact (List.getElem?_eq_some_iff.mp hl).1
  have := List.all_eq_true.mp hall q (List.mem_range.mpr hlt)
  simp only [Bool.or_eq_true, decide_eq_true_eq] at this
  exact this.elim (fun e => absurd hq e) Nat.eq_of_beq_eq_true
set_option maxRecDepth 100000 in
theorem k12 {q : Nat} (h : kdn q = some 12) : q = 97 := kdn_one (by decide +kernel) h
set_option maxRecDepth 100000 in
theorem k62 {q : Nat} (h : kdn q = some 62) : q = 106 := kdn_one (by decide +kernel) h
set_option maxRecDepth 100000 in
theorem k63 {q : Nat} (h : kdn q = some 63) : q = 107 := kdn_one (by decide +kernel) h
def xlPK : XL := fun a i _ => match i, a.2.2.1 with
  | .iaload, x :: r :: _ => if (tag a.1 r 1 && (Nat.beq (kn a.1 r) 62 || Nat.beq (kn a.1 r) 63)) && a.2.2.2.any (fun e => Nat.beq e.1 0 && (Nat.beq e.2.2.1 18 && (tag a.1 e.2.1 1 && (Nat.beq (kn a.1 e.2.1) 12 && eqS a.1 e.2.2.2 x)))) then some (if Nat.beq (kn a.1 r) 62 then (1, 4) else (1, 16)) else none
  | _, _ => none
theorem xlPK_ok : HookL TYP PKi xlPK := by
  intro ρ0 ρ a ls st σ i ex lo hi x st' σ' hr ht hI hx hp
  obtain ⟨S, L, K, M⟩ := a
  unfold xlPK at hx
  split at hx
  · rename_i xn rn K' hK
    simp only at hK
    subst hK
    split at hx
    · rename_i hc
      simp only [Bool.and_eq_true, Bool.or_eq_true] at hc
      obtain ⟨⟨t1, t2⟩, t3⟩ := hc
      obtain ⟨v1, r1, rfl, e1, hr1⟩ := hr.pop
      obtain ⟨v2, r2, rfl, e2, hr2⟩ := hr1.pop
      obtain ⟨q, rfl⟩ := hr.isA e2 (tag_eq t1)
      have hq := hr.kind e2
      obtain ⟨e, he, hpe⟩ := List.any_eq_true.mp t3
      simp only [Bool.and_eq_true] at hpe
      obtain ⟨p1, p2, p3, p4, p5⟩ := hpe
      have hm := hr.2.2.2.2.1 e he
      unfold memOK at hm
      rw [Nat.eq_of_beq_eq_true p1] at hm
      obtain ⟨q0, m1, m2⟩ := hm
      have hq0 := hr.kind m1
      rw [Nat.eq_of_beq_eq_true p4] at hq0
      have := k12 hq0
      subst this
      rw [Nat.eq_of_beq_eq_true p2] at m2
      have hld : ∃ j : Int32, v1 = .int j ∧ x = σ.1 q j.toNatClampNeg := by
        simp only [hpI, ldA] at hp
        split at hp
        · rename_i i0 q0 r0 hst
          cases hst
          split at hp
          · split at hp
            · cases hp; exact ⟨i0, rfl, rfl⟩
            · cases hp
          · cases hp
        · cases hp
      obtain ⟨j, rfl, hxj⟩ := hld
      have hj := eqS_ok hr p5 m2 e1
      obtain ⟨a1, a2, N, hN⟩ := hI
      obtain ⟨-, b1, b2, b3, b4, -⟩ := hN
      rw [← hj] at hxj
      rcases t2 with t2 | t2
      · rw [Nat.eq_of_beq_eq_true t2] at hq
        have := k62 hq
        subst this
        rw [if_pos t2] at hx
        cases hx
        rw [hxj]
        exact ⟨b1, b2⟩
      · have hne : ¬ Nat.beq (kn S rn) 62 = true := fun h => by
          rw [Nat.eq_of_beq_eq_true t2] at h
          cases h
        rw [Nat.eq_of_beq_eq_true t2] at hq
        have := k63 hq
        subst this
        rw [if_neg hne] at hx
        cases hx
        rw [hxj]
        exact ⟨b3, b4⟩
    · cases hx
  · cases hx
/-- promises of methods walked by hand -/
theorem av1 {av : List Value} (h : avsOK [(1, 12, 0)] av) : av = [.ref 97] := by
  obtain ⟨h1, h2⟩ := h
  cases av with
  | nil => cases h1
  | cons v av =>
    cases av with
    | cons _ _ => simp at h1
    | nil =>
      obtain ⟨q, rfl, hq⟩ := h2 0 _ v rfl rfl
      rw [k12 hq]
def sp_210 : SP := ([(1, 12, 0)], [], some (0, 4, 16), [], [], [], 0, 0, [])
theorem c_210 : SpecOK PRG TYP PKi 210 sp_210 := by
  refine ⟨by decide, fun av σ ht hI hav _ _ => ?_⟩
  have := av1 hav
  subst this
  obtain ⟨N, hN⟩ := hI.2.2
  refine Ok.mono (cards_OK ht hN) (fun v σ' h => ?_)
  obtain ⟨w, rfl, rfl, hw⟩ := h
  have hle := hN.le
  exact ⟨⟨ht, hI, fun _ _ _ _ _ => rfl⟩, ⟨w, rfl, by simp only; omega, by simp only; omega⟩, fun _ _ _ => ⟨fun t h => absurd h List.not_mem_nil, fun h => by cases h⟩, fun p h => absurd h List.not_mem_nil, fun h => absurd h (by decide)⟩
set_option maxRecDepth 100000 in
theorem w_195_0 {d : Nat} {Q : Option Value → Sg → Prop} (σ : Sg) (x0 x1 x2 : Int32) (h : ((x0 < x1 → Q (some (.int (0 : Int32))) σ) ∧ (¬ x0 < x1 → ((x2 < x0 → Q (some (.int (0 : Int32))) σ) ∧ (¬ x2 < x0 → Q (some (.int (1 : Int32))) σ))))) : Rn PRG d 195 0 [(0, .int x0), (1, .int x1), (2, .int x2)] [] σ Q := by
  have hM : PRG[195]? = some M_195 := rfl
  refine Rn.br (c := x0 < x1) (a := 14) (b := 5) (ls' := [(0, .int x0), (1, .int x1), (2, .int x2)]) (st' := []) (σ' := σ) hM 3 rfl (fun c => ?_) (fun c => ?_)
  · replace h := h.1 c
    refine Rn.seg (pc' := 15) (ls' := [(0, .int x0), (1, .int x1), (2, .int x2)]) (st' := [.int (0 : Int32)]) (σ' := σ) hM 1 rfl ?_
    exact Rn.ret hM rfl rfl h
  · replace h := h.2 c
    refine Rn.br (c := x2 < x0) (a := 14) (b := 10) (ls' := [(0, .int x0), (1, .int x1), (2, .int x2)]) (st' := []) (σ' := σ) hM 3 rfl (fun c => ?_) (fun c => ?_)
    · replace h := h.1 c
      refine Rn.seg (pc' := 15) (ls' := [(0, .int x0), (1, .int x1), (2, .int x2)]) (st' := [.int (0 : Int32)]) (σ' := σ) hM 1 rfl ?_
      exact Rn.ret hM rfl rfl h
    · replace h := h.2 c
      refine Rn.seg (pc' := 15) (ls' := [(0, .int x0), (1, .int x1), (2, .int x2)]) (st' := [.int (1 : Int32)]) (σ' := σ) hM 2 rfl ?_
      exact Rn.ret hM rfl rfl h
def sp_195 : SP := ([(0, -2147483648, 2147483647), (0, -2147483648, 2147483647), (0, -2147483648, 2147483647)], [], some (0, 0, 1), [], [], [], 0, 1, [])
theorem in_OK {d : Nat} {σ : Sg} {x y z : Int32} : OkI PRG d 195 [.int x, .int y, .int z] σ (fun w σ' => σ' = σ ∧ ((w = 1 ∧ y.toInt ≤ x.toInt ∧ x.toInt ≤ z.toInt) ∨ (w = 0 ∧ ¬ (y.toInt ≤ x.toInt ∧ x.toInt ≤ z.toInt)))) := by
  refine ⟨M_195, rfl, Nat.le_of_ble_eq_true rfl, w_195_0 σ x y z ⟨fun c => ?_, fun c => ⟨fun c2 => ?_, fun c2 => ?_⟩⟩⟩
  · rw [Int32.lt_iff_toInt_lt] at c
    exact ⟨0, rfl, rfl, Or.inr ⟨rfl, by omega⟩⟩
  · rw [Int32.lt_iff_toInt_lt] at c2
    exact ⟨0, rfl, rfl, Or.inr ⟨rfl, by omega⟩⟩
  · rw [Int32.lt_iff_toInt_lt] at c c2
    exact ⟨1, rfl, rfl, Or.inl ⟨rfl, by omega, by omega⟩⟩
theorem c_195 : SpecOK PRG TYP PKi 195 sp_195 := by
  refine ⟨by decide, fun av σ ht hI hav _ _ => ?_⟩
  obtain ⟨h1, h2⟩ := hav
  match av, h1, h2 with
  | [v0, v1, v2], _, h2 =>
    obtain ⟨x, rfl, -⟩ := h2 0 _ v0 rfl rfl
    obtain ⟨y, rfl, -⟩ := h2 1 _ v1 rfl rfl
    obtain ⟨z, rfl, -⟩ := h2 2 _ v2 rfl rfl
    refine Ok.mono in_OK (fun v σ' h => ?_)
    obtain ⟨w, rfl, rfl, hw⟩ := h
    refine ⟨⟨ht, hI, fun _ _ _ _ _ => rfl⟩, ⟨w, rfl, ?_, ?_⟩, fun u hu hn => ⟨fun t h => absurd h List.not_mem_nil, fun _ => ⟨x, y, z, rfl, ?_⟩⟩, fun p h => absurd h List.not_mem_nil, fun h => absurd h (by decide)⟩
    · rcases hw with ⟨rfl, -⟩ | ⟨rfl, -⟩ <;> decide
    · rcases hw with ⟨rfl, -⟩ | ⟨rfl, -⟩ <;> decide
    · cases hu
      rcases hw with ⟨-, a⟩ | ⟨rfl, -⟩
      · exact a
      · exact absurd rfl hn
