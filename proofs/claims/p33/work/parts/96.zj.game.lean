/-! which customs apply to the cards of a game, which are lies: the class -/
def jO (E : List Nat) : Bool := ([3, 4, 5, 6, 7, 8, 9, 10] : List Nat).all (fun q => !(E.contains q))
def jC (s r : Nat) (t : Int32) (nc : Nat) (K S : Nat → Int32) (PP : PPt) (σ : Sg) : Prop := LC s r t σ ∧ cpC nc PP σ ∧ lcC nc K S σ
def apI (r nc : Nat) (K S : Nat → Int32) (PP : PPt) (C W : Nat → Int32) (i : Nat) : Int32 := apF K S PP (vaX r (C i) (ldG r C i) (nI (i / 4)) (bfF r C W (W i) (suF r (C i)) i)) (kdF r C i) (W i &&& 1) nc
def lyI (s r : Nat) (t : Int32) (nc : Nat) (K S : Nat → Int32) (PP : PPt) (D C W : Nat → Int32) (i : Nat) : Int32 := lyF PP (vsX s r t (C i) (ldG r C i) (nI (i / 4)) (bfF r C W (W i) (suF r (C i)) i) (hnF D C W (W i).toNatClampNeg i)) (apI r nc K S PP C W i) nc
section Jg
variable {s r m n nc : Nat} {t x w ld : Int32} {D C W K S : Nat → Int32} {PP : PPt} {σ σ1 σ2 : Sg}
theorem jC.ex {E : List Nat} (h : jC s r t nc K S PP σ) (hf : exc E σ σ1) (hE : jO E = true) : jC s r t nc K S PP σ1 := by
  have e : ∀ q, q ∈ ([3, 4, 5, 6, 7, 8, 9, 10] : List Nat) → ∀ j, σ1.1 q j = σ.1 q j := fun q hq => hf q (by revert q; decide) (by
    have := List.all_eq_true.mp hE q hq
    simpa using this)
  have e3 := e 3 (by decide)
  have e4 := e 4 (by decide)
  have e5 := e 5 (by decide)
  have e6 := e 6 (by decide)
  have e7 := e 7 (by decide)
  have e8 := e 8 (by decide)
  have e9 := e 9 (by decide)
  have e10 := e 10 (by decide)
  obtain ⟨⟨a1, a2, a3, a4, a5, a6, a7⟩, h2, h3, h4⟩ := h
  exact ⟨⟨by rw [e3]; exact a1, by rw [e3]; exact a2, by rw [e3]; exact a3, by rw [e3]; exact a4, by rw [e3]; exact a5, fun u hu => by rw [e9]; exact a6 u hu, fun c hc => by rw [e10]; exact a7 c hc⟩, fun k hk => (h2 k hk).fr14 (fun x => e8 x) (fun x => ⟨e6 x, e7 x⟩), (e3 3).trans h3, fun k hk => ⟨(e4 k).trans (h4 k hk).1, (e5 k).trans (h4 k hk).2⟩⟩
theorem apF_cg {V V' : Nat → Int32} {kd sd : Int32} (h : ∀ i, i < 14 → V i = V' i) (hP : gPP nc PP) : ∀ k, k ≤ nc → apF K S PP V kd sd k = apF K S PP V' kd sd k := by
  intro k
  induction k with
  | zero => intro _; rfl
  | succ k ih =>
    intro hk
    have e : apB K S PP V kd sd k = apB K S PP V' kd sd k := by
      unfold apB
      rw [whB_cg h (hP.2 k hk).1]
    show (if apB K S PP V kd sd k = true then _ else _) = (if apB K S PP V' kd sd k = true then _ else _)
    rw [e, ih (by omega)]
theorem lyF_cg {V V' : Nat → Int32} {a : Int32} (h : ∀ i, i < 14 → V i = V' i) (hP : gPP nc PP) : ∀ k, k ≤ nc → lyF PP V a k = lyF PP V' a k := by
  intro k
  induction k with
  | zero => intro _; rfl
  | succ k ih =>
    intro hk
    show (if (bt a k && !whB V (PP k).2) = true then _ else _) = (if (bt a k && !whB V' (PP k).2) = true then _ else _)
    rw [whB_cg h (hP.2 k hk).2.2.1, ih (by omega)]
theorem vaC {led tr bf : Int32} (hv : ∀ i, i < 14 → σ.1 13 i = vaX r x led tr bf i) : vcC s r t x led tr bf σ ∧ (σ.1 13 6 = 0 ∧ σ.1 13 7 = 0) := by
  refine ⟨⟨fun i hi => hv i (by omega), fun i h1 h2 => (hv i h2).trans ?_⟩, hv 6 (by decide), hv 7 (by decide)⟩
  unfold vaX
  rw [if_neg (by omega), if_neg (by omega), if_neg (by omega), if_neg (by omega), if_neg (by omega)]
theorem apI_cg {C' W' : Nat → Int32} {i : Nat} (hC : ∀ k, k ≤ i → C k = C' k) (hW : ∀ k, k ≤ i → W k = W' k) : apI r nc K S PP C W i = apI r nc K S PP C' W' i := by
  unfold apI
  rw [kdF_cg hC, hC i (Nat.le_refl _), hW i (Nat.le_refl _), ldG_cg (fun k hk => hC k (by omega)), bfF_cg i (fun k hk => hC k (by omega)) (fun k hk => hW k (by omega))]
theorem lyI_cg {C' W' : Nat → Int32} {i : Nat} (hC : ∀ k, k ≤ i → C k = C' k) (hW : ∀ k, k ≤ i → W k = W' k) : lyI s r t nc K S PP D C W i = lyI s r t nc K S PP D C' W' i := by
  unfold lyI
  rw [apI_cg hC hW, hC i (Nat.le_refl _), hW i (Nat.le_refl _), ldG_cg (fun k hk => hC k (by omega)), bfF_cg i (fun k hk => hC k (by omega)) (fun k hk => hW k (by omega)), hnF_cg (fun k hk => hC k (by omega)) (fun k hk => hW k (by omega))]
theorem g22_39 {T : Int32} (h : RCx PRG n 39 [.ref 22, .int x] σ (some (.int w)) σ1) (hL : lOK s r t) (hJ : jC s r t nc K S PP σ) (hP : gPP nc PP) (hB : gB 22 25 26 C W m σ) (hV : isC s r C m) (hm : m ≤ 16) (hx : ∃ c, c < s * r ∧ x = nI c) (hT : σ.1 22 6 = T) : exc [13, 14] σ σ1 ∧ w = apF K S PP (vaX r x (ldG r C m) (nI (m / 4)) (bfF r C W T (suF r x) m)) (kdG r x (ldG r C m)) (T &&& 1) nc ∧ ∀ i, i < 14 → σ1.1 13 i = vaX r x (ldG r C m) (nI (m / 4)) (bfF r C W T (suF r x) m) i := by
  obtain ⟨w', ew, hq⟩ := h.by (Q := fun v s' => ∃ w : Int32, v = some (.int w) ∧ (exc [13, 14] σ s' ∧ w = apF K S PP (vaX r x (ldG r C m) (nI (m / 4)) (bfF r C W T (suF r x) m)) (kdG r x (ldG r C m)) (T &&& 1) nc ∧ ∀ i, i < 14 → s'.1 13 i = vaX r x (ldG r C m) (nI (m / 4)) (bfF r C W T (suF r x) m) i)) (fun n d => p_39_0 σ x (fun w2 σ2 h2 w4 σ4 h4 σ6 h6 w7 σ7 h7 w9 σ9 h9 => by
    obtain ⟨rfl, rfl⟩ := g22_34 h2 hL hJ.1 hB hV hm
    obtain ⟨rfl, rfl⟩ := g22_36 h4 hL hJ.1 hB hV hm hx hT
    rw [hB.1, div_4 (by omega)] at h6
    obtain ⟨f6, v6⟩ := rc10 h6 hL hJ.1 hx
    have J6 := hJ.ex f6 rfl
    obtain ⟨rfl, rfl⟩ := g22_37 h7 hL J6.1 hx
    have e6 : σ7.1 22 6 = T := (f6 22 (by decide) rfl 6).trans hT
    rw [e6] at h9
    obtain ⟨f9, e9⟩ := rc38 h9 hP J6.2.1 J6.2.2
    exact ⟨_, rfl, (f6.sub (subE_ok rfl)).trans (f9.sub (subE_ok rfl)), e9.trans (apF_cg v6 hP nc (Nat.le_refl _)), fun i hi => (f9 13 (by decide) rfl i).trans (v6 i hi)⟩))
  cases ew
  exact hq
theorem and3_id : ∀ p, p < 4 → (nI p &&& (3 : Int32)) = nI p := by decide
/-- would it be a lie -/
theorem g22_40 {p : Nat} (h : RCx PRG n 40 [.ref 22, .int x] σ (some (.int w)) σ1) (hL : lOK s r t) (hJ : jC s r t nc K S PP σ) (hP : gPP nc PP) (hG : gC22 s r t D ld C W m σ) (hV : gV s r t D ld C W m) (hx : ∃ c, c < s * r ∧ x = nI c) (hp : p < 4) (ep : tnF (s * r) r t ld C W m = nI p) : exc [13, 14] σ σ1 ∧ w = lyF PP (vsX s r t x (ldG r C m) (nI (m / 4)) (bfF r C W (nI p) (suF r x) m) (hnF D C W p m)) (apF K S PP (vaX r x (ldG r C m) (nI (m / 4)) (bfF r C W (nI p) (suF r x) m)) (kdG r x (ldG r C m)) (nI p &&& 1) nc) nc := by
  obtain ⟨w', ew, hq⟩ := h.by (Q := fun v s' => ∃ w : Int32, v = some (.int w) ∧ (exc [13, 14] σ s' ∧ w = lyF PP (vsX s r t x (ldG r C m) (nI (m / 4)) (bfF r C W (nI p) (suF r x) m) (hnF D C W p m)) (apF K S PP (vaX r x (ldG r C m) (nI (m / 4)) (bfF r C W (nI p) (suF r x) m)) (kdG r x (ldG r C m)) (nI p &&& 1) nc) nc)) (fun n d => p_40_0 σ x (fun w2 σ2 h2 _ σ4 h4 w5 σ5 h5 => by
    have e6 : σ.1 22 6 = nI p := hG.2.2.1.trans ep
    have hm := hV.2.1
    have hN := hL.2.2.2.2.1
    obtain ⟨f2, e2, v2⟩ := g22_39 h2 hL hJ hP (gD22.b hG (Nat.le_refl _)) hV.2.2.1 (by omega) hx e6
    have J2 := hJ.ex f2 rfl
    rw [f2 22 (by decide) rfl 6, e6, and3_id p hp, nI_clamp (by omega), f2 24 (by decide) rfl p, hG.2.2.2.2.2.1 p hp] at h4
    obtain ⟨c, hc, rfl⟩ := hx
    obtain ⟨v3, v4⟩ := vaC (s := s) (t := t) v2
    obtain ⟨f4, e4⟩ := rc11 h4 hL J2.1 hc v3 (fun _ => v4)
    have J4 := J2.ex f4 rfl
    obtain ⟨f5, e5⟩ := rc13 h5 hP J4.2.1 J4.2.2
    exact ⟨_, rfl, (f2.trans (f4.sub (subE_ok rfl))).trans (f5.sub (subE_ok rfl)), by rw [e5, lyF_cg e4 hP nc (Nat.le_refl _), e2]⟩))
  cases ew
  exact hq
/-- the two sums of the m-th card are noted, the others' are kept -/
def adQ (A B : Int32) (m : Nat) (σ0 σ : Sg) : Prop := σ.1 31 m = A ∧ σ.1 32 m = B ∧ ∀ k, ¬ k = m → σ.1 31 k = σ0.1 31 k ∧ σ.1 32 k = σ0.1 32 k
theorem adQ.put {A B y : Int32} {σ0 : Sg} {q k : Nat} (h : adQ A B m σ0 σ) (h1 : ¬ q = 31) (h2 : ¬ q = 32) : adQ A B m σ0 (s1 σ q k y) := ⟨by rw [s1_off (by omega)]; exact h.1, by rw [s1_off (by omega)]; exact h.2.1, fun j hj => ⟨by rw [s1_off (by omega)]; exact (h.2.2 j hj).1, by rw [s1_off (by omega)]; exact (h.2.2 j hj).2⟩⟩
theorem g22_endA {T A B : Int32} {d k : Nat} {σ0 : Sg} (hL : lOK s r t) (hC : LC s r t σ) (hV : isC s r C m) (hm : m ≤ s * r ∧ 1 ≤ m) (hT : T = W (m - 1)) (hD : gD22 s r t D ld C W m m (m / 4) T σ) (ha : adQ A B k σ0 σ) : ∀ n, Pl PRG n d 63 262 [(0, .ref 22)] [] σ (fun _ s' => adQ A B k σ0 s') := by
  intro n
  have hN := hL.2.2.2.2.1
  refine Pl.pos (fun n1 h1 => p_63_262 σ (fun w2 σ2 h2 => ?_))
  obtain ⟨rfl, rfl⟩ := g22_62 (C := C) (W := W) (ld := ld) h2 hL hC hD.2.2.2.1 (by omega) (hD.2.2.1.trans hT) (fun e => by
    rw [hD.2.2.2.2.2.2.2 _ (by omega), show 4 * (m / 4 - 1) = m - 4 by omega])
  exact (ha.put (by omega) (by omega)).put (by omega) (by omega)
theorem g22_putA {T : Int32} {d p : Nat} {B σ0 : Sg} (hL : lOK s r t) (hJ : jC s r t nc K S PP B) (hP : gPP nc PP) (hV : isC s r C (m + 1)) (hm : m < s * r) (hT : W m = T ∧ T = nI p ∧ p < 4) (hx : C m = x) (hD : gD22 s r t D ld C W (m + 1) m (m / 4) T B) (hf : ∀ k, B.1 31 k = σ0.1 31 k ∧ B.1 32 k = σ0.1 32 k) : ∀ w8 σ7, RCx PRG n 39 [.ref 22, .int x] B (some (.int w8)) σ7 → inR (nI m) 16 = true → inR (σ7.1 22 6) 4 = true → ∀ σ9, RCx PRG n 11 [.ref 12, .int (σ7.1 24 (σ7.1 22 6).toNatClampNeg)] (s1 σ7 31 (nI m).toNatClampNeg w8) none σ9 → inR (σ9.1 22 7) 16 = true → ∀ w11 σ10, RCx PRG n 13 [.ref 12, .int (σ9.1 31 (σ9.1 22 7).toNatClampNeg)] σ9 (some (.int w11)) σ10 → inR (σ9.1 22 7) 16 = true → inR (σ10.1 22 6) 4 = true → inR (σ10.1 22 6) 4 = true → ((((σ10.1 22 7) + (1 : Int32)) - ((σ10.1 22 7) + (1 : Int32)) / (4 : Int32) * (4 : Int32)) = 0 → (∀ w13 σ12, RCx PRG n 45 [.ref 22, .int (((σ10.1 22 7) + (1 : Int32)) - (4 : Int32))] (s1 (s1 (s1 σ10 32 (σ9.1 22 7).toNatClampNeg w11) 24 (σ10.1 22 6).toNatClampNeg ((σ10.1 24 (σ10.1 22 6).toNatClampNeg) &&& (((1 : Int32) <<< (x &&& 31)) ^^^ (-1 : Int32)))) 22 7 ((σ10.1 22 7) + (1 : Int32))) (some (.int w13)) σ12 → (inR w13 16 = true → (inR ((((σ10.1 22 7) + (1 : Int32)) / (4 : Int32)) - (1 : Int32)) 4 = true → Pl PRG n d 63 262 [(0, .ref 22)] [] (s1 σ12 33 ((((σ10.1 22 7) + (1 : Int32)) / (4 : Int32)) - (1 : Int32)).toNatClampNeg (σ12.1 26 w13.toNatClampNeg)) (fun _ s' => adQ (apI r nc K S PP C W m) (lyI s r t nc K S PP D C W m) m σ0 s'))))) ∧ (¬ (((σ10.1 22 7) + (1 : Int32)) - ((σ10.1 22 7) + (1 : Int32)) / (4 : Int32) * (4 : Int32)) = 0 → Pl PRG n d 63 262 [(0, .ref 22)] [] (s1 (s1 (s1 σ10 32 (σ9.1 22 7).toNatClampNeg w11) 24 (σ10.1 22 6).toNatClampNeg ((σ10.1 24 (σ10.1 22 6).toNatClampNeg) &&& (((1 : Int32) <<< (x &&& 31)) ^^^ (-1 : Int32)))) 22 7 ((σ10.1 22 7) + (1 : Int32))) (fun _ s' => adQ (apI r nc K S PP C W m) (lyI s r t nc K S PP D C W m) m σ0 s')) := by
  intro w8 σ7 h39 _ _ σ9 h11 _ w11 σ10 h13 _ _ _
  have hN := hL.2.2.2.2.1
  have hC := hJ.1
  obtain ⟨c, hc, ec⟩ := hV m (by omega)
  have hxc : ∃ c, c < s * r ∧ x = nI c := ⟨c, hc, by rw [← hx]; exact ec⟩
  obtain ⟨t1, t2, t3⟩ := hT
  obtain ⟨f39, e39, v39⟩ := g22_39 h39 hL hJ hP (hD.b (by omega)) (fun i hi => hV i (by omega)) (by omega) hxc hD.2.2.1
  have q6 : σ7.1 22 6 = nI p := (f39 22 (by decide) rfl 6).trans (hD.2.2.1.trans t2)
  have q24 : σ7.1 24 p = hnF D C W p m := (f39 24 (by decide) rfl p).trans (hD.2.2.2.2.2.1 p t3)
  have fS : exc [13, 14, 31] B (s1 σ7 31 m w8) := (f39.sub (subE_ok rfl)).put rfl
  have JS := hJ.ex fS rfl
  rw [q6, nI_clamp (n := p) (by omega), q24, nI_clamp (n := m) (by omega)] at h11
  obtain ⟨v3, v4⟩ := vaC (s := s) (t := t) (σ := s1 σ7 31 m w8) (x := x) (r := r) (led := ldG r C m) (tr := nI (m / 4)) (bf := bfF r C W T (suF r x) m) (fun i hi => by rw [s1_off (by omega)]; exact v39 i hi)
  have ex : x = nI c := by rw [← hx]; exact ec
  rw [ex] at v3
  obtain ⟨f11, e11⟩ := rc11 h11 hL JS.1 hc v3 (fun _ => v4)
  have J9 := JS.ex f11 rfl
  have q7 : σ9.1 22 7 = nI m := by rw [f11 22 (by decide) rfl 7, s1_off (by omega), f39 22 (by decide) rfl 7]; exact hD.2.2.2.1
  have q31 : σ9.1 31 m = w8 := by rw [f11 31 (by decide) rfl m, s1_on]
  rw [q7, nI_clamp (n := m) (by omega), q31] at h13
  obtain ⟨f13, e13⟩ := rc13 h13 hP J9.2.1 J9.2.2
  have aw8 : w8 = apI r nc K S PP C W m := by
    rw [e39]
    unfold apI kdF
    rw [hx, t1]
  have aw11 : w11 = lyI s r t nc K S PP D C W m := by
    rw [e13, lyF_cg e11 hP nc (Nat.le_refl _), aw8]
    unfold lyI
    rw [hx, t1, t2, nI_clamp (n := p) (by omega), ex]
  have fB : exc [13, 14, 31] B σ10 := (fS.trans (f11.sub (subE_ok rfl))).trans (f13.sub (subE_ok rfl))
  have D10 := hD.fr fB rfl
  have C10 := (hJ.ex fB rfl).1
  have A10 : ∀ y, adQ (apI r nc K S PP C W m) (lyI s r t nc K S PP D C W m) m σ0 (s1 (s1 (s1 σ10 32 m w11) 24 p y) 22 7 (nI (m + 1))) := by
    intro y
    refine ((?_ : adQ _ _ m σ0 (s1 σ10 32 m w11)).put (by omega) (by omega)).put (by omega) (by omega)
    refine ⟨?_, ?_, fun k hk => ⟨?_, ?_⟩⟩
    · rw [s1_off (by omega), f13 31 (by decide) rfl m, q31, aw8]
    · rw [s1_on, aw11]
    · rw [s1_off (by omega), f13 31 (by decide) rfl k, f11 31 (by decide) rfl k, s1_off (by omega), f39 31 (by decide) rfl k]
      exact (hf k).1
    · rw [s1_off (by omega), fB 32 (by decide) rfl k]
      exact (hf k).2
  have e7 := D10.2.2.2.1
  have e6 : σ10.1 22 6 = nI p := D10.2.2.1.trans t2
  have ew := D10.2.2.2.2.2.1 p t3
  rw [q7, e7, e6, nI_clamp (n := p) (by omega), ew, nI_clamp (n := m) (by omega), nI_1, rem_4 (by omega), div_4 (by omega)]
  have DF : gD22 s r t D ld C W (m + 1) (m + 1) (m / 4) T (s1 (s1 (s1 σ10 32 m w11) 24 p (hnF D C W p m &&& (((1 : Int32) <<< (x &&& 31)) ^^^ (-1 : Int32)))) 22 7 (nI (m + 1))) := by
    obtain ⟨d1, d2, d3, d4, d5, d6, d7, d8⟩ := D10
    refine ⟨?_, ?_, ?_, s1_on, fun q hq => ?_, fun q hq => ?_, fun i hi => ?_, fun k hk => ?_⟩
    · rw [s1_off (by omega), s1_off (by omega), s1_off (by omega)]; exact d1
    · rw [s1_off (by omega), s1_off (by omega), s1_off (by omega)]; exact d2
    · rw [s1_off (by omega), s1_off (by omega), s1_off (by omega)]; exact d3
    · rw [s1_off (by omega), s1_off (by omega), s1_off (by omega)]; exact d5 q hq
    · by_cases e : q = p
      · subst e
        rw [s1_off (by omega), s1_on, hnF_on (by rw [t1, t2]), hx]
      · rw [s1_off (by omega), s1_off (by omega), s1_off (by omega), hnF_off (fun h => e ((nI_eq (by omega) (by omega)).mp (by rw [← h, t1, t2])))]
        exact d6 q hq
    · have h18 := d7 i hi
      iterate 18 rw [s1_off (by omega)]
      exact h18
    · rw [s1_off (by omega), s1_off (by omega), s1_off (by omega)]; exact d8 k hk
  have CF : LC s r t (s1 (s1 (s1 σ10 32 m w11) 24 p (hnF D C W p m &&& (((1 : Int32) <<< (x &&& 31)) ^^^ (-1 : Int32)))) 22 7 (nI (m + 1))) := C10.fr (E := [32, 24, 22]) ((((exc.refl σ10).put rfl).put rfl).put rfl) rfl rfl rfl
  have AF := A10 (hnF D C W p m &&& (((1 : Int32) <<< (x &&& 31)) ^^^ (-1 : Int32)))
  generalize s1 (s1 (s1 σ10 32 m w11) 24 p (hnF D C W p m &&& (((1 : Int32) <<< (x &&& 31)) ^^^ (-1 : Int32)))) 22 7 (nI (m + 1)) = F at DF CF AF ⊢
  have t4 : T = W (m + 1 - 1) := t1.symm
  refine ⟨fun c w13 σ12 h45 _ _ => ?_, fun c => ?_⟩
  · have c4 : (m + 1) % 4 = 0 := (nI_eq (b := 0) (by omega) (by decide)).mp c
    rw [show nI (m + 1) - (4 : Int32) = nI (m + 1 - 4) by rw [nI_4, nI_subI (by omega)]] at h45
    obtain ⟨rfl, rfl⟩ := g22_45 h45 hL CF (DF.b (Nat.le_refl _)) hV (by omega) (by omega)
    have hr := bsF_rg (r := r) (t := t) (C := C) (m + 1 - 4) 3
    rw [show nI ((m + 1) / 4) - 1 = nI ((m + 1) / 4 - 1) from nI_subI (a := (m + 1) / 4) (b := 1) (by omega), nI_clamp (by omega), nI_clamp (by omega), ((DF.b (Nat.le_refl _)).2 _ (by omega)).2]
    refine g22_endA (D := D) (ld := ld) hL (CF.fr (E := [33]) ((exc.refl σ12).put rfl) rfl rfl rfl) hV (by omega) t4 ?_ (AF.put (by omega) (by omega)) n
    obtain ⟨d1, d2, d3, d4, d5, d6, d7, d8⟩ := DF
    refine ⟨?_, ?_, ?_, ?_, fun q hq => ?_, fun q hq => ?_, fun i hi => ?_, fun k hk => ?_⟩
    · rw [s1_off (by omega)]; exact d1
    · rw [s1_off (by omega)]; exact d2
    · rw [s1_off (by omega)]; exact d3
    · rw [s1_off (by omega)]; exact d4
    · rw [s1_off (by omega)]; exact d5 q hq
    · rw [s1_off (by omega)]; exact d6 q hq
    · have h6 := d7 i hi
      iterate 6 rw [s1_off (by omega)]
      exact h6
    · by_cases e : k = (m + 1) / 4 - 1
      · subst e
        rw [s1_on, show 4 * ((m + 1) / 4 - 1) = m + 1 - 4 by omega]
      · rw [s1_off (by omega)]; exact d8 k (by omega)
  · have c4 : ¬ (m + 1) % 4 = 0 := fun e => c (by rw [e]; rfl)
    refine g22_endA (D := D) (ld := ld) hL CF hV (by omega) t4 ?_ AF n
    rw [show (m + 1) / 4 = m / 4 by omega]
    exact DF
theorem g22_63A (h : RCx PRG n 63 [.ref 22, .int x] σ none σ1) (hL : lOK s r t) (hJ : jC s r t nc K S PP σ) (hP : gPP nc PP) (hG : gC22 s r t D ld C W m σ) (hV : gV s r t D ld C W m) (hm : m < s * r) (hx : ∃ c, c < s * r ∧ x = nI c) : adQ (apI r nc K S PP (upF C m x) (upF W m (tnF (s * r) r t ld C W m)) m) (lyI s r t nc K S PP D (upF C m x) (upF W m (tnF (s * r) r t ld C W m)) m) m σ σ1 := by
  have hC := hJ.1
  obtain ⟨p, hp, ep⟩ := hV.turn hm
  obtain ⟨c, hc, ex⟩ := hx
  have hN := hL.2.2.2.2.1
  have hVC : isC s r C m := hV.2.2.1
  have hCu : ∀ k, k < m → C k = upF C m x k := fun k hk => (upF_off (by omega)).symm
  have hWu : ∀ k, k < m → W k = upF W m (nI p) k := fun k hk => (upF_off (by omega)).symm
  have hVu : isC s r (upF C m x) (m + 1) := fun i hi => by
    by_cases e : i = m
    · subst e; rw [upF_on]; exact ⟨c, hc, ex⟩
    · rw [upF_off e]; exact hVC i (by omega)
  have hB := gD22.b hG (Nat.le_refl _)
  rw [ep]
  refine h.by (Q := fun _ s' => adQ (apI r nc K S PP (upF C m x) (upF W m (nI p)) m) (lyI s r t nc K S PP D (upF C m x) (upF W m (nI p)) m) m σ s') (fun n d => p_63_0 σ x ?_)
  have e6 : σ.1 22 6 = nI p := hG.2.2.1.trans ep
  have e7 := hG.2.2.2.1
  rw [e6, e7]
  have e16 : (16 : Int32) = nI 16 := by decide
  refine ⟨fun c1 => absurd c1 (nI_pos (by omega)), fun _ => ⟨fun c1 => absurd ((nI_leI (a := 16) (b := m) (by decide) (by omega)).mp (by rw [← e16]; exact c1)) (by omega), fun _ => ⟨fun c1 => absurd c1 (by rw [ex]; exact nI_pos (by omega)), fun _ => ⟨fun _ w2 σ2 h34 => ?_, fun c1 => absurd (by rw [ex, e16]; exact nI_lt (by omega) (by decide)) c1⟩⟩⟩⟩
  obtain ⟨hs2, rfl⟩ := g22_34 h34 hL hC hB hVC (by omega)
  rw [hs2, e6, e7, nI_clamp (n := m) (by omega)]
  intro _ _ _ w4 σ4 h37
  have C1 : LC s r t (s1 (s1 (s1 σ 25 m x) 26 m (nI p)) 28 m (ldG r C m)) := hC.fr (E := [25, 26, 28]) ((((exc.refl σ).put rfl).put rfl).put rfl) rfl rfl rfl
  obtain ⟨hs4, rfl⟩ := g22_37 h37 hL C1 ⟨c, hc, ex⟩
  intro _ w6 σ6 h36
  have C2 : LC s r t (s1 σ4 27 m (kdG r x (ldG r C m))) := by
    rw [hs4]; exact C1.fr (E := [27]) ((exc.refl _).put rfl) rfl rfl rfl
  have B2 : gB 22 25 26 C W m (s1 σ4 27 m (kdG r x (ldG r C m))) := by
    rw [hs4]
    refine ⟨?_, fun i hi => ⟨?_, ?_⟩⟩
    · iterate 4 rw [s1_off (by omega)]
      exact e7
    · iterate 4 rw [s1_off (by omega)]
      exact (hB.2 i hi).1
    · iterate 4 rw [s1_off (by omega)]
      exact (hB.2 i hi).2
  have T2 : (s1 σ4 27 m (kdG r x (ldG r C m))).1 22 6 = nI p := by
    rw [hs4]
    iterate 4 rw [s1_off (by omega)]
    exact e6
  obtain ⟨hs6, rfl⟩ := g22_36 h36 hL C2 B2 hVC (by omega) ⟨c, hc, ex⟩ T2
  have e47 : σ4.1 22 7 = nI m := by
    rw [hs4]
    iterate 3 rw [s1_off (by omega)]
    exact e7
  have e67 : σ6.1 22 7 = nI m := by
    rw [hs6, s1_off (by omega)]; exact e47
  have e66 : σ6.1 22 6 = nI p := by
    rw [hs6]; exact T2
  have ek : σ6.1 27 m = kdG r x (ldG r C m) := by rw [hs6, s1_on]
  have C6 : LC s r t σ6 := by rw [hs6]; exact C2
  have ew : σ6.1 24 p = hnF D C W p m := by
    rw [hs6, hs4]
    iterate 4 rw [s1_off (by omega)]
    exact hG.2.2.2.2.2.1 p hp
  have k1 : kdF r (upF C m x) m = kdG r x (ldG r C m) := by
    unfold kdF
    rw [upF_on, ← ldG_cg hCu]
  have k2 : hnF D (upF C m x) (upF W m (nI p)) (upF W m (nI p) m).toNatClampNeg m &&& scF s r (ldG r (upF C m x) m) = hnF D C W p m &&& scF s r (ldG r C m) := by
    rw [upF_on, nI_clamp (by omega), ← hnF_cg hCu hWu, ← ldG_cg hCu]
  have fin : ∀ b : Int32, b = brF s r D (upF C m x) (upF W m (nI p)) m → gD22 s r t D ld (upF C m x) (upF W m (nI p)) (m + 1) m (m / 4) (nI p) (s1 (s1 σ6 29 m (bfF r C W (nI p) (suF r x) m)) 30 m b) ∧ LC s r t (s1 (s1 σ6 29 m (bfF r C W (nI p) (suF r x) m)) 30 m b) ∧ exc E22 σ (s1 (s1 σ6 29 m (bfF r C W (nI p) (suF r x) m)) 30 m b) := by
    intro b hb
    refine ⟨?_, C6.fr (E := [29, 30]) (((exc.refl σ6).put rfl).put rfl) rfl rfl rfl, ?_⟩
    · rw [hs6, hs4]
      exact g22_SN hG ep ex hb
    · rw [hs6, hs4]
      exact ((((((exc.refl σ).put rfl).put rfl).put rfl).put rfl).put rfl).put rfl
  rw [e47, e67, e66, nI_clamp (n := m) (by omega), nI_clamp (n := p) (by omega), ek, ew]
  have k31 : ∀ b k, (s1 (s1 σ6 29 m (bfF r C W (nI p) (suF r x) m)) 30 m b).1 31 k = σ.1 31 k ∧ (s1 (s1 σ6 29 m (bfF r C W (nI p) (suF r x) m)) 30 m b).1 32 k = σ.1 32 k := by
    intro b k
    rw [hs6, hs4]
    constructor
    · iterate 6 rw [s1_off (by omega)]
    · iterate 6 rw [s1_off (by omega)]
  have hT : upF W m (nI p) m = nI p ∧ nI p = nI p ∧ p < 4 := ⟨upF_on, rfl, hp⟩
  intro _ _
  refine ⟨fun c2 _ _ => ?_, fun c2 => ?_⟩
  · obtain ⟨u, hu, eu⟩ := kd_2 hL hVC c2
    have es : σ6.1 9 (ldG r C m).toNatClampNeg = scF s r (ldG r C m) := by
      rw [eu, nI_clamp (by have := hL.2.1; omega)]
      exact C6.2.2.2.2.2.1 u (by have := hL.2.1; omega)
    rw [es]
    refine ⟨fun c3 _ => ?_, fun c3 _ => ?_⟩
    · obtain ⟨q1, q2, q3⟩ := fin 0 (by unfold brF; rw [k1, k2, if_neg (fun h => h.2 c3)])
      have := g22_putA (n := n) (d := d) (σ0 := σ) hL (hJ.ex q3 rfl) hP hVu hm hT upF_on q1 (k31 _)
      rw [nI_clamp (n := m) (by omega)] at this
      exact this
    · obtain ⟨q1, q2, q3⟩ := fin 1 (by unfold brF; rw [k1, k2, if_pos ⟨c2, c3⟩])
      have := g22_putA (n := n) (d := d) (σ0 := σ) hL (hJ.ex q3 rfl) hP hVu hm hT upF_on q1 (k31 _)
      rw [nI_clamp (n := m) (by omega)] at this
      exact this
  · intro _
    obtain ⟨q1, q2, q3⟩ := fin 0 (by unfold brF; rw [k1, if_neg (fun h => c2 h.1)])
    have := g22_putA (n := n) (d := d) (σ0 := σ) hL (hJ.ex q3 rfl) hP hVu hm hT upF_on q1 (k31 _)
    rw [nI_clamp (n := m) (by omega)] at this
    exact this
end Jg
