/-! ranges: cells (all), branches -/
section AbsH2
variable {TY : List (List SEG)} {I : Sg → Prop} {ms dep : List (Nat × Nat × Nat)} {σ0 σ : Sg} {ρ0 ρ : List Value} {S : List SI} {L : List (Nat × Nat)} {K : List Nat} {M : List ME} {a a' : AS} {ls : Lcl} {st : List Value}
theorem nar_z (x : Int32) : 0 ≤ (vp_nar .boolean x).toInt ∧ (vp_nar .boolean x).toInt ≤ 1 := and_nn2 (x := x) (y := 1) (by decide)
theorem glo2 (hst : stab I dep) (hG : Glo TY I ms σ0 σ) (q k : Nat) (x : Int64) : Glo TY I ms σ0 (s2 σ q k x) := ⟨hG.1, hst.2 σ q k x hG.2.1, hG.2.2⟩
set_option maxHeartbeats 1000000 in
theorem hpA_ok {i : Instr} {ex : List Nat} (hst : stab I dep) (hr : Rel ρ0 ρ a ls st σ) (hG : Glo TY I ms σ0 σ) (h : hpA TY ms dep i ex a = some a') : ∃ ρ' st' σ', hpI i ex st σ = some (st', σ') ∧ Rel ρ0 ρ' a' ls st' σ' ∧ Glo TY I ms σ0 σ' := by
  cases i with
  | getfield idx =>
    obtain ⟨ρ', st', h1, h2⟩ := gfA_ok hr hG h
    exact ⟨ρ', st', σ, h1, h2, hG⟩
  | putfield idx =>
    simp only [hpA] at h
    cases h0 : pfA TY ms dep ex a with
    | some a1 =>
      rw [h0] at h
      cases h
      obtain ⟨st', σ', h1, h2, h3⟩ := pfA_ok hst hr hG h0
      exact ⟨ρ, st', σ', h1, h2, h3⟩
    | none =>
      rw [h0, Option.none_or] at h
      obtain ⟨st', σ', h1, h2, h3⟩ := pfN_ok hst hr hG h
      exact ⟨ρ, st', σ', h1, h2, h3⟩
  | iaload =>
    obtain ⟨ρ', i, q, r, t, n, fs, rfl, hk, ht, hi, h2⟩ := laA_ok hr hG h
    have ht := Nat.eq_of_beq_eq_true ht
    subst ht
    exact ⟨ρ', _, σ, by simp [hpI, ldA, hk, hi], h2, hG⟩
  | baload =>
    obtain ⟨ρ', i, q, r, t, n, fs, rfl, hk, ht, hi, h2⟩ := laA_ok hr hG h
    simp only [Bool.or_eq_true] at ht
    rcases ht with ht | ht
    · have ht := Nat.eq_of_beq_eq_true ht
      subst ht
      exact ⟨ρ', _, σ, by simp [hpI, ldA, hk, hi], h2, hG⟩
    · have ht := Nat.eq_of_beq_eq_true ht
      subst ht
      exact ⟨ρ', _, σ, by simp [hpI, ldA, hk, hi], h2, hG⟩
  | laload =>
    obtain ⟨S, L, K, M⟩ := a
    simp only [hpA] at h
    split at h
    · rename_i i r K'
      split at h
      · rename_i ht
        rw [Bool.and_eq_true] at ht
        split at h
        · rename_i t n fs hk
          split at h
          · rename_i hc
            rw [Bool.and_eq_true] at hc
            cases h
            obtain ⟨vv, r0, rfl, e1, hr1⟩ := hr.pop
            obtain ⟨vr, r1, rfl, e2, hr2⟩ := hr1.pop
            obtain ⟨q, rfl⟩ := hr.isA e2 (tag_eq ht.1)
            obtain ⟨x, rfl⟩ := hr.isI e1 (tag_eq ht.2)
            have hkd := hr.kind e2
            have ht4 := Nat.eq_of_beq_eq_true hc.1
            subst ht4
            have hkn : knd q = some (4, n, fs) := by rw [kdn_knd hkd]; exact hk
            obtain ⟨i1, -⟩ := ix_in hr ht.2 hc.2 e1
            exact ⟨_, _, σ, by simp only [hpI, ldA, hkn, i1, and_self, if_true], hr2.pushN (v := .long (σ.2 q x.toNatClampNeg)) okS_long, hG⟩
          · cases h
        · cases h
      · cases h
    · cases h
  | aaload =>
    obtain ⟨S, L, K, M⟩ := a
    simp only [hpA] at h
    split at h
    · rename_i i r K'
      split at h
      · rename_i ht
        rw [Bool.and_eq_true] at ht
        split at h
        · rename_i t n ft κ' rr hk
          split at h
          · rename_i hc
            rw [Bool.and_eq_true, Bool.and_eq_true] at hc
            cases h
            obtain ⟨vv, r0, rfl, e1, hr1⟩ := hr.pop
            obtain ⟨vr, r1, rfl, e2, hr2⟩ := hr1.pop
            obtain ⟨q, rfl⟩ := hr.isA e2 (tag_eq ht.1)
            obtain ⟨x, rfl⟩ := hr.isI e1 (tag_eq ht.2)
            have hkd := hr.kind e2
            have h5 := Nat.le_of_ble_eq_true hc.1
            have h7 := Nat.le_of_ble_eq_true hc.2.1
            have hkn : knd q = some (t, n, (ft, κ') :: rr) := by rw [kdn_knd hkd]; exact hk
            obtain ⟨i1, -, -, i4⟩ := ix_in hr ht.2 hc.2.2 e1
            refine ⟨_, _, σ, ?_, hr2.pushN (v := .ref (tg q x.toNatClampNeg)) ⟨_, rfl, lay_a hkd hk h5 i4⟩, hG⟩
            have h : t = 5 ∨ t = 6 ∨ t = 7 := by omega
            rcases h with rfl | rfl | rfl <;> simp [hpI, ldA, hkn, i1]
          · cases h
        · cases h
      · cases h
    · cases h
  | iastore =>
    obtain ⟨S, L, K, M⟩ := a
    simp only [hpA] at h
    split at h
    · rename_i v i r K'
      split at h
      · rename_i ht
        rw [Bool.and_eq_true, Bool.and_eq_true] at ht
        split at h
        · rename_i t n fs hk
          split at h
          · rename_i hc
            rw [Bool.and_eq_true, Bool.and_eq_true] at hc
            cases h
            obtain ⟨vx, r9, rfl, e0, hr0⟩ := hr.pop
            obtain ⟨vv, r0, rfl, e1, hr1⟩ := hr0.pop
            obtain ⟨vr, r1, rfl, e2, hr2⟩ := hr1.pop
            obtain ⟨q, rfl⟩ := hr.isA e2 (tag_eq ht.1)
            obtain ⟨j, rfl⟩ := hr.isI e1 (tag_eq ht.2.1)
            obtain ⟨x, f1, f2, f3, -⟩ := hr.int (tag_eq ht.2.2)
            rw [e0] at f1; cases f1
            have hkd := hr.kind e2
            have ht4 := Nat.eq_of_beq_eq_true hc.1
            subst ht4
            have hkn : knd q = some (1, n, fs) := by rw [kdn_knd hkd]; exact hk
            obtain ⟨i1, i2, i3, i4⟩ := ix_in hr ht.2.1 hc.2.1 e1
            refine ⟨ρ, _, _, by simp only [hpI, stA, hkn, i1, and_self, if_true], memAdd (hr2.wr hkd i2 i3) ⟨q, j, e2, e1, ?_⟩, wr_glo hst hc.2.2 hG hkd i2 i3 f2 f3 (fun c9 fs9 κ9 h9 _ => by rw [hk] at h9; cases h9)⟩
            rw [s1_at, if_pos ⟨rfl, rfl⟩]
            exact e0
          · cases h
        · cases h
      · cases h
    · cases h
  | bastore =>
    obtain ⟨S, L, K, M⟩ := a
    simp only [hpA] at h
    split at h
    · rename_i v i r K'
      split at h
      · rename_i ht
        rw [Bool.and_eq_true, Bool.and_eq_true] at ht
        split at h
        · rename_i t n fs hk
          obtain ⟨vx, r9, rfl, e0, hr0⟩ := hr.pop
          obtain ⟨vv, r0, rfl, e1, hr1⟩ := hr0.pop
          obtain ⟨vr, r1, rfl, e2, hr2⟩ := hr1.pop
          obtain ⟨q, rfl⟩ := hr.isA e2 (tag_eq ht.1)
          obtain ⟨j, rfl⟩ := hr.isI e1 (tag_eq ht.2.1)
          obtain ⟨x, rfl⟩ := hr.isI e0 (tag_eq ht.2.2)
          have hkd := hr.kind e2
          have hkn : knd q = some (t, n, fs) := by rw [kdn_knd hkd]; exact hk
          split at h
          · rename_i hc
            rw [Bool.and_eq_true, Bool.and_eq_true] at hc
            cases h
            have ht4 := Nat.eq_of_beq_eq_true hc.1
            subst ht4
            obtain ⟨i1, i2, i3, i4⟩ := ix_in hr ht.2.1 hc.2.1 e1
            exact ⟨ρ, _, _, by simp [hpI, stA, hkn, i1], hr2.wr hkd i2 i3, wr_glo hst hc.2.2 hG hkd i2 i3 (nar_b x).1 (nar_b x).2 (fun c9 fs9 κ9 h9 _ => by rw [hk] at h9; cases h9)⟩
          · split at h
            · rename_i hc
              rw [Bool.and_eq_true, Bool.and_eq_true] at hc
              cases h
              have ht4 := Nat.eq_of_beq_eq_true hc.1
              subst ht4
              obtain ⟨i1, i2, i3, i4⟩ := ix_in hr ht.2.1 hc.2.1 e1
              exact ⟨ρ, _, _, by simp [hpI, stA, hkn, i1], hr2.wr hkd i2 i3, wr_glo hst hc.2.2 hG hkd i2 i3 (nar_z x).1 (nar_z x).2 (fun c9 fs9 κ9 h9 _ => by rw [hk] at h9; cases h9)⟩
            · cases h
        · cases h
      · cases h
    · cases h
  | lastore =>
    obtain ⟨S, L, K, M⟩ := a
    simp only [hpA] at h
    split at h
    · rename_i v i r K'
      split at h
      · rename_i ht
        rw [Bool.and_eq_true, Bool.and_eq_true] at ht
        split at h
        · rename_i t n fs hk
          split at h
          · rename_i hc
            rw [Bool.and_eq_true] at hc
            cases h
            obtain ⟨vx, r9, rfl, e0, hr0⟩ := hr.pop
            obtain ⟨vv, r0, rfl, e1, hr1⟩ := hr0.pop
            obtain ⟨vr, r1, rfl, e2, hr2⟩ := hr1.pop
            obtain ⟨q, rfl⟩ := hr.isA e2 (tag_eq ht.1)
            obtain ⟨j, rfl⟩ := hr.isI e1 (tag_eq ht.2.1)
            obtain ⟨x, rfl⟩ := hr.isJ e0 (tag_eq ht.2.2)
            have hkd := hr.kind e2
            have ht4 := Nat.eq_of_beq_eq_true hc.1
            subst ht4
            have hkn : knd q = some (4, n, fs) := by rw [kdn_knd hkd]; exact hk
            obtain ⟨i1, i2, i3, i4⟩ := ix_in hr ht.2.1 hc.2 e1
            exact ⟨ρ, _, _, by simp only [hpI, hkn, i1, if_true], hr2.wr2 q j.toNatClampNeg x, glo2 hst hG q _ x⟩
          · cases h
        · cases h
      · cases h
    · cases h
  | arraylength =>
    obtain ⟨S, L, K, M⟩ := a
    simp only [hpA] at h
    split at h
    · rename_i r K'
      split at h
      · rename_i ht
        split at h
        · rename_i t n fs hk
          split at h
          · rename_i hc
            rw [Bool.and_eq_true, Bool.and_eq_true] at hc
            cases h
            obtain ⟨vr, r1, rfl, e2, hr2⟩ := hr.pop
            obtain ⟨q, rfl⟩ := hr.isA e2 (tag_eq ht)
            have hkd := hr.kind e2
            have hkn : knd q = some (t, n, fs) := by rw [kdn_knd hkd]; exact hk
            have h1 := Nat.le_of_ble_eq_true hc.1
            have h7 := Nat.le_of_ble_eq_true hc.2.1
            have hn : n < 2147483648 := Nat.le_of_ble_eq_true hc.2.2
            have hv : (Int32.ofNat n).toInt = (n : Int) := nI_toInt (n := n) (by omega)
            exact ⟨_, _, σ, by simp only [hpI, hkn]; rw [if_pos ⟨h1, h7⟩], hr2.pushN (okS_new hr2.1 (by omega) (by omega)), hG⟩
          · cases h
        · cases h
      · cases h
    · cases h
  | _ => cases h
end AbsH2
/-- a tighter range of a name -/
def rf1 (S : List SI) (s : Nat) (lo hi : Int) : List SI := if tag S s 0 then S.set s (0, imax (gS S s).2.1 lo, imin (gS S s).2.2.1 hi, (gS S s).2.2.2.1, (gS S s).2.2.2.2.1, (gS S s).2.2.2.2.2) else S
def rf (S : List SI) (s : Nat) (lo hi : Int) : List SI := rf1 (rf1 S s lo hi) (gS S s).2.2.2.1 (lo - (gS S s).2.2.2.2.1) (hi - (gS S s).2.2.2.2.1)
def cnd (c : Nat) (x y : Int) : Prop := match c with
  | 0 => x = y
  | 1 => ¬ x = y
  | 2 => x < y
  | 3 => y ≤ x
  | 4 => y < x
  | _ => x ≤ y
def ngc (c : Nat) : Nat := match c with
  | 0 => 1
  | 1 => 0
  | 2 => 3
  | 3 => 2
  | 4 => 5
  | _ => 4
theorem ngc_ok {c : Nat} {x y : Int} (h : ¬ cnd c x y) : cnd (ngc c) x y := by
  unfold cnd at h
  unfold ngc
  split at h <;> (simp only [cnd]; omega)
def bdX (c : Nat) (lx hx ly hy : Int) : Int × Int := match c with
  | 0 => (ly, hy)
  | 1 => if ly = hy then (if lx = ly then (lx + 1, FH) else if hx = ly then (FL, hx - 1) else (FL, FH)) else (FL, FH)
  | 2 => (FL, hy - 1)
  | 3 => (ly, FH)
  | 4 => (ly + 1, FH)
  | _ => (FL, hy)
def swc (c : Nat) : Nat := match c with
  | 0 => 0
  | 1 => 1
  | 2 => 4
  | 3 => 5
  | 4 => 2
  | _ => 3
theorem swc_ok {c : Nat} {x y : Int} (h : cnd c x y) : cnd (swc c) y x := by
  unfold cnd at h
  unfold swc
  split at h <;> (simp only [cnd]; omega)
theorem bdX_ok {c : Nat} {x y lx hx ly hy : Int} (h : cnd c x y) (h0 : FL ≤ x) (h9 : x ≤ FH) (h1 : lx ≤ x) (h2 : x ≤ hx) (h3 : ly ≤ y) (h4 : y ≤ hy) : (bdX c lx hx ly hy).1 ≤ x ∧ x ≤ (bdX c lx hx ly hy).2 := by
  unfold cnd at h
  unfold bdX
  split at h
  · exact ⟨by simp only; omega, by simp only; omega⟩
  · split
    · split
      · exact ⟨by simp only; omega, by simp only; omega⟩
      · split
        · exact ⟨by simp only; omega, by simp only; omega⟩
        · exact ⟨h0, h9⟩
    · exact ⟨h0, h9⟩
  · exact ⟨by simp only; omega, by simp only; omega⟩
  · exact ⟨by simp only; omega, by simp only; omega⟩
  · exact ⟨by simp only; omega, by simp only; omega⟩
  · exact ⟨by simp only; omega, by simp only; omega⟩
section AbsB
variable {σ : Sg} {ρ0 ρ : List Value} {S : List SI} {L : List (Nat × Nat)} {K : List Nat} {M : List ME} {a a' : AS} {ls : Lcl} {st : List Value}
theorem Rel.tag0 (h : Rel ρ0 ρ (S, L, K, M) ls st σ) {s : Nat} {w : Int32} (hw : ρ[s]? = some (.int w)) : (gS S s).1 = 0 := by
  have hlt : s < S.length := by have := (List.getElem?_eq_some_iff.mp hw).1; rw [h.1] at this; exact this
  have hs : S[s]? = some (gS S s) := by unfold gS; rw [List.getElem?_eq_getElem hlt]; rfl
  obtain ⟨v, g1, g2⟩ := h.val hs
  rw [hw] at g1
  cases g1
  unfold okS at g2
  split at g2
  · assumption
  · obtain ⟨q, h1, -⟩ := g2; cases h1
  · rcases g2 with h1 | ⟨q, h1, -⟩ <;> cases h1
  · obtain ⟨q, h1⟩ := g2; cases h1
theorem Rel.tight (h : Rel ρ0 ρ (S, L, K, M) ls st σ) {s : Nat} {lo hi : Int} {w : Int32} (hw : ρ[s]? = some (.int w)) (h1 : lo ≤ w.toInt) (h2 : w.toInt ≤ hi) : Rel ρ0 ρ (rf1 S s lo hi, L, K, M) ls st σ := by
  have ht := h.tag0 hw
  obtain ⟨r1, r2, r3⟩ := h
  unfold rf1
  rw [if_pos (by unfold tag; rw [ht]; rfl)]
  refine ⟨by simpa using r1, ?_, r3⟩
  intro s' si hs
  simp only at hs
  rw [List.getElem?_set] at hs
  by_cases he : s = s'
  · subst he
    have hlt : s < S.length := by have := (List.getElem?_eq_some_iff.mp hw).1; rw [r1] at this; exact this
    rw [if_pos rfl, if_pos hlt] at hs
    cases hs
    obtain ⟨v, g1, g2⟩ := r2 s (gS S s) (gS_some ht (by decide))
    rw [hw] at g1
    cases g1
    obtain ⟨w', e1, e2, e3, e4, e5⟩ := okS_int g2 ht
    cases e1
    refine ⟨_, hw, w, rfl, ?_, ?_, e4, e5⟩
    · show imax _ _ ≤ _
      unfold imax
      split <;> omega
    · show _ ≤ imin _ _
      unfold imin
      split <;> omega
  · rw [if_neg he] at hs
    exact r2 s' si hs
theorem Rel.fine (h : Rel ρ0 ρ (S, L, K, M) ls st σ) {s : Nat} {lo hi : Int} {w : Int32} (hw : ρ[s]? = some (.int w)) (h1 : lo ≤ w.toInt) (h2 : w.toInt ≤ hi) : Rel ρ0 ρ (rf S s lo hi, L, K, M) ls st σ := by
  obtain ⟨w', f1, -, -, y, ⟨u, p1, p2⟩, p3⟩ := h.int (h.tag0 hw)
  rw [hw] at f1
  cases f1
  exact (h.tight hw h1 h2).tight p1 (by omega) (by omega)
/-- what an answer that isn't 0 says -/
def impF (S : List SI) (im : List (Nat × Int × Int)) : List SI := im.foldl (fun S t => rf S t.1 t.2.1 t.2.2) S
theorem Rel.imp : ∀ (im : List (Nat × Int × Int)) {S : List SI}, Rel ρ0 ρ (S, L, K, M) ls st σ → (∀ t ∈ im, ∃ y, iv ρ t.1 y ∧ t.2.1 ≤ y ∧ y ≤ t.2.2) → Rel ρ0 ρ (impF S im, L, K, M) ls st σ
  | [], S, h, _ => h
  | t :: im, S, h, ht => by
    obtain ⟨y, ⟨w, g1, g2⟩, g3, g4⟩ := ht t List.mem_cons_self
    exact Rel.imp im (h.fine g1 (by omega) (by omega)) (fun t h => ht t (List.mem_cons_of_mem _ h))
def neI (S : List SI) (s : Nat) : Bool := decide ((ivl S s).1 ≤ (ivl S s).2)
/-- a comparison holds: the two names' ranges -/
def cmZ (S : List SI) (s c : Nat) : List SI := if Nat.beq c 1 then impF (rf S s (bdX c (ivl S s).1 (ivl S s).2 0 0).1 (bdX c (ivl S s).1 (ivl S s).2 0 0).2) (gS S s).2.2.2.2.2 else rf S s (bdX c (ivl S s).1 (ivl S s).2 0 0).1 (bdX c (ivl S s).1 (ivl S s).2 0 0).2
def cmY (S : List SI) (x y c : Nat) : List SI := rf (rf S x (bdX c (ivl S x).1 (ivl S x).2 (ivl S y).1 (ivl S y).2).1 (bdX c (ivl S x).1 (ivl S x).2 (ivl S y).1 (ivl S y).2).2) y (bdX (swc c) (ivl S y).1 (ivl S y).2 (ivl S x).1 (ivl S x).2).1 (bdX (swc c) (ivl S y).1 (ivl S y).2 (ivl S x).1 (ivl S x).2).2
def cmX (S : List SI) (x y c : Nat) : List SI := if 1 ≤ (ivl (cmY S x y c) x).1 then impF (cmY S x y c) (gS S x).2.2.2.2.2 else cmY S x y c
theorem cmZ_ok (h : Rel ρ0 ρ (S, L, K, M) ls st σ) {s c : Nat} {w : Int32} (hw : ρ[s]? = some (.int w)) (hc : cnd c w.toInt 0) : Rel ρ0 ρ (cmZ S s c, L, K, M) ls st σ ∧ neI (cmZ S s c) s = true := by
  have hne : ∀ S', Rel ρ0 ρ (S', L, K, M) ls st σ → neI S' s = true := fun S' hS => by
    obtain ⟨w', f1, f2, f3, -⟩ := hS.int (hS.tag0 hw)
    exact decide_eq_true (by omega)
  have ht := h.tag0 hw
  obtain ⟨w', f1, f2, f3, -⟩ := h.int ht
  rw [hw] at f1
  cases f1
  have hb := bdX_ok hc (w_lo w) (w_hi w) f2 f3 (Int.le_refl 0) (Int.le_refl 0)
  have h1 := h.fine hw hb.1 hb.2
  unfold cmZ
  split
  · rename_i h9
    have h9 := Nat.eq_of_beq_eq_true h9
    subst h9
    obtain ⟨v, g1, g2⟩ := h.val (gS_some ht (by decide))
    rw [hw] at g1
    cases g1
    obtain ⟨w2, e1, -, -, -, e5⟩ := okS_int g2 ht
    cases e1
    have hw0 : ¬ w = 0 := fun e => by rw [e] at hc; exact hc rfl
    have h2 := Rel.imp (gS S s).2.2.2.2.2 h1 (e5 hw0)
    exact ⟨h2, hne _ h2⟩
  · exact ⟨h1, hne _ h1⟩
theorem cmX_ok (h : Rel ρ0 ρ (S, L, K, M) ls st σ) {x y c : Nat} {wx wy : Int32} (hx : ρ[x]? = some (.int wx)) (hy : ρ[y]? = some (.int wy)) (hc : cnd c wx.toInt wy.toInt) : Rel ρ0 ρ (cmX S x y c, L, K, M) ls st σ ∧ (neI (cmX S x y c) x && neI (cmX S x y c) y) = true := by
  obtain ⟨w', f1, f2, f3, -⟩ := h.int (h.tag0 hx)
  rw [hx] at f1
  cases f1
  obtain ⟨w', g1, g2, g3, -⟩ := h.int (h.tag0 hy)
  rw [hy] at g1
  cases g1
  have hb := bdX_ok hc (w_lo wx) (w_hi wx) f2 f3 g2 g3
  have hd := bdX_ok (swc_ok hc) (w_lo wy) (w_hi wy) g2 g3 f2 f3
  have h2 : Rel ρ0 ρ (cmY S x y c, L, K, M) ls st σ := (h.fine hx hb.1 hb.2).fine hy hd.1 hd.2
  have h3 : Rel ρ0 ρ (cmX S x y c, L, K, M) ls st σ := by
    unfold cmX
    split
    · rename_i h1
      obtain ⟨w9, m1, m2, m3, -⟩ := h2.int (h2.tag0 hx)
      rw [hx] at m1
      cases m1
      obtain ⟨v, n1, n2⟩ := h.val (gS_some (h.tag0 hx) (by decide))
      rw [hx] at n1
      cases n1
      obtain ⟨w2, e1, -, -, -, e5⟩ := okS_int n2 (h.tag0 hx)
      cases e1
      exact Rel.imp (gS S x).2.2.2.2.2 h2 (e5 (ine (by omega)))
    · exact h2
  refine ⟨h3, ?_⟩
  rw [Bool.and_eq_true]
  obtain ⟨w1, k1, k2, k3, -⟩ := h3.int (h3.tag0 hx)
  obtain ⟨w3, l1, l2, l3, -⟩ := h3.int (h3.tag0 hy)
  exact ⟨decide_eq_true (Int.le_trans k2 k3), decide_eq_true (Int.le_trans l2 l3)⟩
/-- what a comparison adds -/
def fcZ (s c : Nat) (M : List ME) : List ME := if Nat.beq c 1 then (4, s, 0, 0) :: M else M
def fcX (x y c : Nat) (M : List ME) : List ME := match c with
  | 0 => (3, x, y, 0) :: (3, y, x, 0) :: M
  | 1 => M
  | 2 => (3, y, x, 1) :: M
  | 3 => (3, x, y, 0) :: M
  | 4 => (3, x, y, 1) :: M
  | _ => (3, y, x, 0) :: M
theorem fcZ_ok (h : Rel ρ0 ρ (S, L, K, M) ls st σ) {s c : Nat} {w : Int32} (hw : ρ[s]? = some (.int w)) (hc : cnd c w.toInt 0) : Rel ρ0 ρ (S, L, K, fcZ s c M) ls st σ := by
  unfold fcZ
  split
  · rename_i h1
    rw [Nat.eq_of_beq_eq_true h1] at hc
    exact memAdd h ⟨w, hw, fun e => hc (by rw [e]; rfl)⟩
  · exact h
theorem fcX_ok (h : Rel ρ0 ρ (S, L, K, M) ls st σ) {x y c : Nat} {wx wy : Int32} (hx : ρ[x]? = some (.int wx)) (hy : ρ[y]? = some (.int wy)) (hc : cnd c wx.toInt wy.toInt) : Rel ρ0 ρ (S, L, K, fcX x y c M) ls st σ := by
  unfold cnd at hc
  unfold fcX
  split at hc
  · exact memAdd (e := (3, x, y, 0)) (memAdd (e := (3, y, x, 0)) h ⟨wy, wx, hy, hx, by show wx.toInt + ((0 : Nat) : Int) ≤ wy.toInt; omega⟩) ⟨wx, wy, hx, hy, by show wy.toInt + ((0 : Nat) : Int) ≤ wx.toInt; omega⟩
  · exact h
  · exact memAdd (e := (3, y, x, 1)) h ⟨wy, wx, hy, hx, by show wx.toInt + ((1 : Nat) : Int) ≤ wy.toInt; omega⟩
  · exact memAdd (e := (3, x, y, 0)) h ⟨wx, wy, hx, hy, by show wy.toInt + ((0 : Nat) : Int) ≤ wx.toInt; omega⟩
  · exact memAdd (e := (3, x, y, 1)) h ⟨wx, wy, hx, hy, by show wy.toInt + ((1 : Nat) : Int) ≤ wx.toInt; omega⟩
  · exact memAdd (e := (3, y, x, 0)) h ⟨wy, wx, hy, hx, by show wx.toInt + ((0 : Nat) : Int) ≤ wy.toInt; omega⟩
/-- 0: what that says of others -/
def zfA (S : List SI) (M : List ME) (s c : Nat) : List SI := if Nat.beq c 0 then M.foldl (fun S e => if Nat.beq e.1 5 && Nat.beq e.2.1 s then rf S e.2.2.1 0 (2 ^ e.2.2.2 - 1) else S) S else S
theorem zf_fold {s : Nat} {w : Int32} (hw : ρ[s]? = some (.int w)) (h0 : w = 0) : ∀ (M' : List ME) {S : List SI}, Rel ρ0 ρ (S, L, K, M) ls st σ → (∀ e ∈ M', memOK ρ σ e) → Rel ρ0 ρ (M'.foldl (fun S e => if Nat.beq e.1 5 && Nat.beq e.2.1 s then rf S e.2.2.1 0 (2 ^ e.2.2.2 - 1) else S) S, L, K, M) ls st σ
  | [], S, h, _ => h
  | e :: M', S, h, hm => by
    simp only [List.foldl_cons]
    refine zf_fold hw h0 M' ?_ (fun e he => hm e (List.mem_cons_of_mem _ he))
    split
    · rename_i hc
      rw [Bool.and_eq_true] at hc
      have hok := hm e List.mem_cons_self
      unfold memOK at hok
      rw [Nat.eq_of_beq_eq_true hc.1] at hok
      obtain ⟨r, x, h1, h2, h3⟩ := hok
      rw [Nat.eq_of_beq_eq_true hc.2, hw] at h1
      cases h1
      have := h3 h0
      exact h.fine h2 this.1 this.2
    · exact h
theorem zfA_ok (h : Rel ρ0 ρ (S, L, K, M) ls st σ) {s c : Nat} {w : Int32} (hw : ρ[s]? = some (.int w)) (hc : cnd c w.toInt 0) : Rel ρ0 ρ (zfA S M s c, L, K, M) ls st σ := by
  unfold zfA
  split
  · rename_i h1
    rw [Nat.eq_of_beq_eq_true h1] at hc
    exact zf_fold hw (Int32.toInt_inj.mp hc) M h h.2.2.2.2.1
  · exact h
/-- the ways on: a branch that is taken by so much, or none; those that can't be are left out -/
def z2 (S : List SI) (L : List (Nat × Nat)) (K : List Nat) (M : List ME) (s c : Nat) (off : Int) : List (Option Int × AS) := (if neI (cmZ S s c) s then [(some off, (zfA (cmZ S s c) M s c, L, K, fcZ s c M))] else []) ++ (if neI (cmZ S s (ngc c)) s then [(none, (zfA (cmZ S s (ngc c)) M s (ngc c), L, K, fcZ s (ngc c) M))] else [])
def x2 (S : List SI) (L : List (Nat × Nat)) (K : List Nat) (M : List ME) (x y c : Nat) (off : Int) : List (Option Int × AS) := (if neI (cmX S x y c) x && neI (cmX S x y c) y then [(some off, (cmX S x y c, L, K, fcX x y c M))] else []) ++ (if neI (cmX S x y (ngc c)) x && neI (cmX S x y (ngc c)) y then [(none, (cmX S x y (ngc c), L, K, fcX x y (ngc c) M))] else [])
def z1 (c : Nat) (off : Int) (a : AS) : Option (List (Option Int × AS)) := match a.2.2.1 with
  | s :: K => if tag a.1 s 0 then some (z2 a.1 a.2.1 K a.2.2.2 s c off) else none
  | _ => none
def x1 (c : Nat) (off : Int) (a : AS) : Option (List (Option Int × AS)) := match a.2.2.1 with
  | y :: x :: K => if tag a.1 x 0 && tag a.1 y 0 then some (x2 a.1 a.2.1 K a.2.2.2 x y c off) else none
  | _ => none
def swA (S : List SI) (L : List (Nat × Nat)) (K : List Nat) (M : List ME) (s : Nat) (lo : Int) : List Int → Nat → List (Option Int × AS)
  | [], _ => []
  | o :: os, j => (if neI (rf S s (lo + j) (lo + j)) s then [(some o, (rf S s (lo + j) (lo + j), L, K, M))] else []) ++ swA S L K M s lo os (j + 1)
def brA (i : Instr) (a : AS) : Option (List (Option Int × AS)) := match i with
  | .ifCond .eq off => z1 0 off a
  | .ifCond .ne off => z1 1 off a
  | .ifCond .lt off => z1 2 off a
  | .ifCond .ge off => z1 3 off a
  | .ifCond .gt off => z1 4 off a
  | .ifCond .le off => z1 5 off a
  | .if_icmp .eq off => x1 0 off a
  | .if_icmp .ne off => x1 1 off a
  | .if_icmp .lt off => x1 2 off a
  | .if_icmp .ge off => x1 3 off a
  | .if_icmp .gt off => x1 4 off a
  | .if_icmp .le off => x1 5 off a
  | .goto off => some [(some off, a)]
  | .if_acmp .ne off => match a.2.2.1 with
    | y :: x :: K => if (tag a.1 x 1 || tag a.1 x 2) && (tag a.1 y 1 || tag a.1 y 2) then some [(some off, (a.1, a.2.1, K, a.2.2.2)), (none, (a.1, a.2.1, K, a.2.2.2))] else none
    | _ => none
  | .tableswitch dflt lo hi offs => match a.2.2.1 with
    | s :: K => if tag a.1 s 0 && decide ((offs.toList.length : Int) = hi - lo + 1) then some ((some dflt, (a.1, a.2.1, K, a.2.2.2)) :: swA a.1 a.2.1 K a.2.2.2 s lo offs.toList 0) else none
    | _ => none
  | _ => none
theorem z1_ok {c : Nat} {off : Int} {alts : List (Option Int × AS)} {f : Int32 → Bool} (hr : Rel ρ0 ρ a ls st σ) (h : z1 c off a = some alts) (hf : ∀ w, f w = true ↔ cnd c w.toInt 0) : ∃ b st', un0 f off st = some (b, off, st') ∧ ∃ p ∈ alts, p.1 = (if b then some off else none) ∧ Rel ρ0 ρ p.2 ls st' σ := by
  obtain ⟨S, L, K, M⟩ := a
  unfold z1 at h
  split at h
  · rename_i s K' hK
    simp only at hK
    subst hK
    split at h
    · rename_i ht
      cases h
      obtain ⟨v, r, rfl, e1, hr1⟩ := hr.pop
      obtain ⟨w, rfl⟩ := hr.isI e1 (tag_eq ht)
      refine ⟨f w, r, rfl, ?_⟩
      unfold z2
      cases hb : f w with
      | true =>
        obtain ⟨g1, g2⟩ := cmZ_ok hr1 e1 ((hf w).mp hb)
        have g1 := fcZ_ok (zfA_ok g1 e1 ((hf w).mp hb)) e1 ((hf w).mp hb)
        refine ⟨(some off, _), List.mem_append_left _ (by rw [if_pos g2]; exact List.mem_cons_self), rfl, g1⟩
      | false =>
        have hn : ¬ cnd c w.toInt 0 := fun e => by rw [(hf w).mpr e] at hb; cases hb
        obtain ⟨g1, g2⟩ := cmZ_ok hr1 e1 (ngc_ok hn)
        have g1 := fcZ_ok (zfA_ok g1 e1 (ngc_ok hn)) e1 (ngc_ok hn)
        refine ⟨(none, _), List.mem_append_right _ (by rw [if_pos g2]; exact List.mem_cons_self), rfl, g1⟩
    · cases h
  · cases h
theorem x1_ok {c : Nat} {off : Int} {alts : List (Option Int × AS)} {f : Int32 → Int32 → Bool} (hr : Rel ρ0 ρ a ls st σ) (h : x1 c off a = some alts) (hf : ∀ w v, f w v = true ↔ cnd c w.toInt v.toInt) : ∃ b st', un2 f off st = some (b, off, st') ∧ ∃ p ∈ alts, p.1 = (if b then some off else none) ∧ Rel ρ0 ρ p.2 ls st' σ := by
  obtain ⟨S, L, K, M⟩ := a
  unfold x1 at h
  split at h
  · rename_i y x K' hK
    simp only at hK
    subst hK
    split at h
    · rename_i ht
      rw [Bool.and_eq_true] at ht
      cases h
      obtain ⟨v, r, rfl, e1, hr1⟩ := hr.pop
      obtain ⟨v2, r2, rfl, e2, hr2⟩ := hr1.pop
      obtain ⟨wy, rfl⟩ := hr.isI e1 (tag_eq ht.2)
      obtain ⟨wx, rfl⟩ := hr.isI e2 (tag_eq ht.1)
      refine ⟨f wx wy, r2, rfl, ?_⟩
      unfold x2
      cases hb : f wx wy with
      | true =>
        obtain ⟨g1, g2⟩ := cmX_ok hr2 e2 e1 ((hf wx wy).mp hb)
        have g1 := fcX_ok g1 e2 e1 ((hf wx wy).mp hb)
        refine ⟨(some off, _), List.mem_append_left _ (by rw [if_pos g2]; exact List.mem_cons_self), rfl, g1⟩
      | false =>
        have hn : ¬ cnd c wx.toInt wy.toInt := fun e => by rw [(hf wx wy).mpr e] at hb; cases hb
        obtain ⟨g1, g2⟩ := cmX_ok hr2 e2 e1 (ngc_ok hn)
        have g1 := fcX_ok g1 e2 e1 (ngc_ok hn)
        refine ⟨(none, _), List.mem_append_right _ (by rw [if_pos g2]; exact List.mem_cons_self), rfl, g1⟩
    · cases h
  · cases h
theorem swA_ok {s : Nat} {lo : Int} {w : Int32} (hr : Rel ρ0 ρ (S, L, K, M) ls st σ) (hw : ρ[s]? = some (.int w)) : ∀ (os : List Int) (j k : Nat) (o : Int), os[k]? = some o → w.toInt = lo + ((j + k : Nat) : Int) → ∃ p ∈ swA S L K M s lo os j, p.1 = some o ∧ Rel ρ0 ρ p.2 ls st σ
  | [], j, k, o, h, _ => by cases h
  | o' :: os, j, 0, o, h, hk => by
    have h : o' = o := Option.some.inj h
    subst h
    have hf := hr.fine (lo := lo + j) (hi := lo + j) hw (by omega) (by omega)
    obtain ⟨w1, k1, k2, k3, -⟩ := hf.int (hf.tag0 hw)
    have hne : neI (rf S s (lo + j) (lo + j)) s = true := decide_eq_true (Int.le_trans k2 k3)
    exact ⟨(some o', _), List.mem_append_left _ (by rw [if_pos hne]; exact List.mem_cons_self), rfl, hf⟩
  | o' :: os, j, k + 1, o, h, hk => by
    obtain ⟨p, h1, h2⟩ := swA_ok hr hw os (j + 1) k o h (by rw [hk]; congr 2; omega)
    exact ⟨p, List.mem_append_right _ h1, h2⟩
theorem lt_ii {x y : Int32} : (x < y) ↔ x.toInt < y.toInt := Int32.lt_iff_toInt_lt
theorem le_ii {x y : Int32} : (x ≤ y) ↔ x.toInt ≤ y.toInt := Int32.le_iff_toInt_le
theorem eq_ii {x y : Int32} : (x = y) ↔ x.toInt = y.toInt := Int32.toInt_inj.symm
theorem i0 : (0 : Int32).toInt = 0 := rfl
set_option maxHeartbeats 1000000 in
theorem brA_ok {i : Instr} {alts : List (Option Int × AS)} (hr : Rel ρ0 ρ a ls st σ) (h : brA i a = some alts) : ∃ b off st', brI i st = some (b, off, st') ∧ ∃ p ∈ alts, p.1 = (if b then some off else none) ∧ Rel ρ0 ρ p.2 ls st' σ := by
  cases i with
  | ifCond c off =>
    cases c with
    | eq => obtain ⟨b, st', g⟩ := z1_ok (f := fun x => decide (x = 0)) hr h (fun w => by rw [decide_eq_true_iff, eq_ii, i0]; rfl); exact ⟨b, off, st', g⟩
    | ne => obtain ⟨b, st', g⟩ := z1_ok (f := fun x => decide (¬ x = 0)) hr h (fun w => by rw [decide_eq_true_iff, eq_ii, i0]; rfl); exact ⟨b, off, st', g⟩
    | lt => obtain ⟨b, st', g⟩ := z1_ok (f := fun x => decide (x < 0)) hr h (fun w => by rw [decide_eq_true_iff, lt_ii, i0]; rfl); exact ⟨b, off, st', g⟩
    | ge => obtain ⟨b, st', g⟩ := z1_ok (f := fun x => decide (0 ≤ x)) hr h (fun w => by rw [decide_eq_true_iff, le_ii, i0]; rfl); exact ⟨b, off, st', g⟩
    | gt => obtain ⟨b, st', g⟩ := z1_ok (f := fun x => decide (0 < x)) hr h (fun w => by rw [decide_eq_true_iff, lt_ii, i0]; rfl); exact ⟨b, off, st', g⟩
    | le => obtain ⟨b, st', g⟩ := z1_ok (f := fun x => decide (x ≤ 0)) hr h (fun w => by rw [decide_eq_true_iff, le_ii, i0]; rfl); exact ⟨b, off, st', g⟩
  | if_icmp c off =>
    cases c with
    | eq => obtain ⟨b, st', g⟩ := x1_ok (f := fun x y => decide (x = y)) hr h (fun w v => by rw [decide_eq_true_iff, eq_ii]; rfl); exact ⟨b, off, st', g⟩
    | ne => obtain ⟨b, st', g⟩ := x1_ok (f := fun x y => decide (¬ x = y)) hr h (fun w v => by rw [decide_eq_true_iff, eq_ii]; rfl); exact ⟨b, off, st', g⟩
    | lt => obtain ⟨b, st', g⟩ := x1_ok (f := fun x y => decide (x < y)) hr h (fun w v => by rw [decide_eq_true_iff, lt_ii]; rfl); exact ⟨b, off, st', g⟩
    | ge => obtain ⟨b, st', g⟩ := x1_ok (f := fun x y => decide (y ≤ x)) hr h (fun w v => by rw [decide_eq_true_iff, le_ii]; rfl); exact ⟨b, off, st', g⟩
    | gt => obtain ⟨b, st', g⟩ := x1_ok (f := fun x y => decide (y < x)) hr h (fun w v => by rw [decide_eq_true_iff, lt_ii]; rfl); exact ⟨b, off, st', g⟩
    | le => obtain ⟨b, st', g⟩ := x1_ok (f := fun x y => decide (x ≤ y)) hr h (fun w v => by rw [decide_eq_true_iff, le_ii]; rfl); exact ⟨b, off, st', g⟩
  | goto off =>
    cases h
    exact ⟨true, off, st, rfl, _, List.mem_cons_self, rfl, hr⟩
  | tableswitch dflt lo hi offs =>
    obtain ⟨S, L, K, M⟩ := a
    simp only [brA] at h
    split at h
    · rename_i s K'
      split at h
      · rename_i ht
        rw [Bool.and_eq_true, decide_eq_true_iff] at ht
        cases h
        obtain ⟨v, r, rfl, e1, hr1⟩ := hr.pop
        obtain ⟨w, rfl⟩ := hr.isI e1 (tag_eq ht.1)
        by_cases hc : w.toInt < lo ∨ hi < w.toInt
        · exact ⟨true, dflt, r, by simp only [brI]; rw [if_pos hc], _, List.mem_cons_self, rfl, hr1⟩
        · have hlt : (w.toInt - lo).toNat < offs.toList.length := by omega
          have hof : offs.toList[(w.toInt - lo).toNat]? = some offs.toList[(w.toInt - lo).toNat] := List.getElem?_eq_getElem hlt
          obtain ⟨p, g1, g2, g3⟩ := swA_ok (lo := lo) hr1 e1 offs.toList 0 _ _ hof (by omega)
          refine ⟨true, offs.toList[(w.toInt - lo).toNat], r, ?_, p, List.mem_cons_of_mem _ g1, g2, g3⟩
          simp only [brI]
          rw [if_neg hc, ← Array.getElem?_toList, hof]
          rfl
      · cases h
    · cases h
  | if_acmp c off =>
    cases c with
    | eq => cases h
    | ne =>
      obtain ⟨S, L, K, M⟩ := a
      simp only [brA] at h
      split at h
      · rename_i y x K'
        split at h
        · rename_i ht
          rw [Bool.and_eq_true] at ht
          cases h
          obtain ⟨vy, r1, rfl, e1, hr1⟩ := hr.pop
          obtain ⟨vx, r2, rfl, e2, hr2⟩ := hr1.pop
          have hv : ∀ {s : Nat} {v : Value}, ρ[s]? = some v → (tag S s 1 || tag S s 2) = true → ∃ o : Option Nat, rfO v = some o ∧ ∀ q ∈ o, q < LAY.length := by
            intro s v hv ht
            have hlt : ∀ {q κ : Nat}, kdn q = some κ → q < LAY.length := by
              intro q κ hq
              unfold kdn at hq
              cases hl : LAY[q]? with
              | none => rw [hl] at hq; cases hq
              | some z => exact (List.getElem?_eq_some_iff.mp hl).1
            rcases Bool.or_eq_true_iff.mp ht with t1 | t1
            · obtain ⟨q, rfl⟩ := hr.isA hv (tag_eq t1)
              exact ⟨some q, rfl, fun q' h' => by cases h'; exact hlt (hr.kind hv)⟩
            · obtain ⟨v9, g1, g2⟩ := hr.val (gS_some (tag_eq t1) (by decide))
              rw [hv] at g1
              cases g1
              unfold okS at g2
              rw [tag_eq t1] at g2
              rcases g2 with rfl | ⟨q, rfl, g3⟩
              · exact ⟨none, rfl, fun q' h' => by cases h'⟩
              · exact ⟨some q, rfl, fun q' h' => by cases h'; exact hlt g3⟩
          obtain ⟨oy, p1, p2⟩ := hv e1 ht.2
          obtain ⟨ox, p3, p4⟩ := hv e2 ht.1
          refine ⟨decide (¬ ox = oy), off, r2, ?_, ?_⟩
          · simp only [brI, p1, p3]
            rw [if_pos ⟨p2, p4⟩]
          · by_cases he : ox = oy
            · exact ⟨_, List.mem_cons_of_mem _ List.mem_cons_self, by simp [he], hr2⟩
            · exact ⟨_, List.mem_cons_self, by simp [he], hr2⟩
        · cases h
      · cases h
  | lookupswitch d ps => cases h
  | _ => cases h
end AbsB
/-- hooks: writes that keep the invariant for a reason of their own; answers that the invariant bounds -/
abbrev XW : Type := AS → Instr → List Nat → Bool
abbrev XL : Type := AS → Instr → List Nat → Option (Int × Int)
def HookW (TY : List (List SEG)) (I : Sg → Prop) (xw : XW) : Prop := ∀ (ρ0 ρ : List Value) (a : AS) (ls : Lcl) (st : List Value) (σ : Sg) (i : Instr) (ex : List Nat) (st' : List Value) (σ' : Sg), Rel ρ0 ρ a ls st σ → typed TY σ → I σ → xw a i ex = true → hpI i ex st σ = some (st', σ') → I σ'
def HookL (TY : List (List SEG)) (I : Sg → Prop) (xl : XL) : Prop := ∀ (ρ0 ρ : List Value) (a : AS) (ls : Lcl) (st : List Value) (σ : Sg) (i : Instr) (ex : List Nat) (lo hi : Int) (x : Int32) (st' : List Value) (σ' : Sg), Rel ρ0 ρ a ls st σ → typed TY σ → I σ → xl a i ex = some (lo, hi) → hpI i ex st σ = some (.int x :: st', σ') → lo ≤ x.toInt ∧ x.toInt ≤ hi
def noW : XW := fun _ _ _ => false
def noL : XL := fun _ _ _ => none
theorem noW_ok {TY : List (List SEG)} {I : Sg → Prop} : HookW TY I noW := fun _ _ _ _ _ _ _ _ _ _ _ _ _ h => by cases h
theorem noL_ok {TY : List (List SEG)} {I : Sg → Prop} : HookL TY I noL := fun _ _ _ _ _ _ _ _ _ _ _ _ _ _ _ _ h => by cases h
def hpX (TY : List (List SEG)) (ms dep : List (Nat × Nat × Nat)) (xw : XW) (xl : XL) (i : Instr) (ex : List Nat) (a : AS) : Option AS := match xw a i ex with
  | true => hpA TY ms [] i ex a
  | false => match xl a i ex with
    | some r => match hpA TY ms dep i ex a with
      | some (S, L, s :: K, M) => if tag S s 0 then some (rf S s r.1 r.2, L, s :: K, M) else none
      | _ => none
    | none => none
theorem hpX_ok {TY : List (List SEG)} {I : Sg → Prop} {ms dep : List (Nat × Nat × Nat)} {σ0 σ : Sg} {ρ0 ρ : List Value} {a a' : AS} {ls : Lcl} {st : List Value} {xw : XW} {xl : XL} {i : Instr} {ex : List Nat} (hst : stab I dep) (hw : HookW TY I xw) (hl : HookL TY I xl) (hr : Rel ρ0 ρ a ls st σ) (hG : Glo TY I ms σ0 σ) (h : hpX TY ms dep xw xl i ex a = some a') : ∃ ρ' st' σ', hpI i ex st σ = some (st', σ') ∧ Rel ρ0 ρ' a' ls st' σ' ∧ Glo TY I ms σ0 σ' := by
  unfold hpX at h
  split at h
  · rename_i hx
    obtain ⟨ρ', st', σ', h1, h2, h3⟩ := hpA_ok (I := fun _ => True) (dep := []) ⟨fun _ _ _ _ _ _ _ _ => trivial, fun _ _ _ _ _ => trivial⟩ hr ⟨hG.1, trivial, hG.2.2⟩ h
    exact ⟨ρ', st', σ', h1, h2, h3.1, hw ρ0 ρ a ls st σ i ex st' σ' hr hG.1 hG.2.1 hx h1, h3.2.2⟩
  · split at h
    · rename_i r hx
      split at h
      · rename_i S L s K M hp
        split at h
        · rename_i ht
          cases h
          obtain ⟨ρ', st', σ', h1, h2, h3⟩ := hpA_ok hst hr hG hp
          obtain ⟨v, r0, rfl, e1, -⟩ := h2.pop
          obtain ⟨x, rfl⟩ := h2.isI e1 (tag_eq ht)
          have hb := hl ρ0 ρ a ls st σ i ex r.1 r.2 x r0 σ' hr hG.1 hG.2.1 hx h1
          exact ⟨ρ', _, σ', h1, h2.fine e1 hb.1 hb.2, h3⟩
        · cases h
      · cases h
    · cases h
