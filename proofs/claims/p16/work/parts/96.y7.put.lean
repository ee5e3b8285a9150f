/-! the games of the class: a card is put, taken back; a game is begun, copied -/
/-- a card, put: the player's hand before and after -/
def dat (s r : Nat) (D C W : Nat → Int32) (i : Nat) (a b c d e f : Int32) : Prop := a = C i ∧ b = W i ∧ c = kdF r C i ∧ d = ldG r C i ∧ e = bfF r C W (W i) (suF r (C i)) i ∧ f = brF s r D C W i
theorem dat.cg {s r : Nat} {D C W C' W' : Nat → Int32} {i : Nat} {a b c d e f : Int32} (h : dat s r D C W i a b c d e f) (hC : ∀ k, k ≤ i → C k = C' k) (hW : ∀ k, k ≤ i → W k = W' k) : dat s r D C' W' i a b c d e f := by
  obtain ⟨h1, h2, h3, h4, h5, h6⟩ := h
  refine ⟨by rw [← hC i (Nat.le_refl _)]; exact h1, by rw [← hW i (Nat.le_refl _)]; exact h2, by rw [← kdF_cg hC]; exact h3, by rw [← ldG_cg (fun k hk => hC k (by omega))]; exact h4, ?_, by rw [← brF_cg hC hW]; exact h6⟩
  rw [← hC i (Nat.le_refl _), ← hW i (Nat.le_refl _), ← bfF_cg i (fun k hk => hC k (by omega)) (fun k hk => hW k (by omega))]
  exact h5
theorem nI_clampI {x : Int32} {c : Nat} (h : x = nI c) (hc : c < 2 ^ 31) : x.toNatClampNeg = c := by rw [h, nI_clamp hc]
theorem ld_ge {s r m : Nat} {t : Int32} {C : Nat → Int32} (hL : lOK s r t) (hV : isC s r C m) (h : ¬ m % 4 = 0) : ∃ u, u < s ∧ ldG r C m = nI u := by
  unfold ldG
  rw [if_neg h]
  obtain ⟨c, hc, e⟩ := hV (m - m % 4) (by omega)
  have hN := hL.2.2.2.2.1
  rw [e, suF_nI ⟨hL.2.2.1, hL.2.2.2.1⟩ (by omega)]
  exact ⟨_, cdiv_lt hc, rfl⟩
theorem kd_2 {s r m : Nat} {t x : Int32} {C : Nat → Int32} (hL : lOK s r t) (hV : isC s r C m) (h : kdG r x (ldG r C m) = 2) : ∃ u, u < s ∧ ldG r C m = nI u := by
  by_cases c : m % 4 = 0
  · exfalso
    have e : ldG r C m = -1 := if_pos c
    rw [e] at h
    unfold kdG at h
    rw [if_neg (by decide)] at h
    exact absurd h (by decide)
  · exact ld_ge hL hV c
/-! game 22 -/
def gD22 (s r : Nat) (t : Int32) (D : Nat → Int32) (ld : Int32) (C W : Nat → Int32) (md m wk : Nat) (tv : Int32) (σ : Sg) : Prop := σ.1 22 2 = 1 ∧ σ.1 22 5 = ld ∧ σ.1 22 6 = tv ∧ σ.1 22 7 = nI m ∧ (∀ p, p < 4 → σ.1 23 p = D p) ∧ (∀ p, p < 4 → σ.1 24 p = hnF D C W p m) ∧ (∀ i, i < md → dat s r D C W i (σ.1 25 i) (σ.1 26 i) (σ.1 27 i) (σ.1 28 i) (σ.1 29 i) (σ.1 30 i)) ∧ (∀ k, k < wk → σ.1 33 k = W (bsF r t C (4 * k) 3))
def gC22 (s r : Nat) (t : Int32) (D : Nat → Int32) (ld : Int32) (C W : Nat → Int32) (m : Nat) (σ : Sg) : Prop := gD22 s r t D ld C W m m (m / 4) (tnF (s * r) r t ld C W m) σ
def gO22 (E : List Nat) : Bool := ([22, 23, 24, 25, 26, 27, 28, 29, 30, 33] : List Nat).all (fun q => !(E.contains q))
section H22
variable {s r m n md wk : Nat} {t x ld tv : Int32} {D C W : Nat → Int32} {σ σ1 : Sg} {w : Int32}
theorem gD22.fr {E : List Nat} (h : gD22 s r t D ld C W md m wk tv σ) (hf : exc E σ σ1) (hE : gO22 E = true) : gD22 s r t D ld C W md m wk tv σ1 := by
  have e : ∀ q, q ∈ ([22, 23, 24, 25, 26, 27, 28, 29, 30, 33] : List Nat) → ∀ j, σ1.1 q j = σ.1 q j := fun q hq => hf q (by revert q; decide) (by
    have := List.all_eq_true.mp hE q hq
    simpa using this)
  have e0 := e 22 (by decide)
  have e1 := e 23 (by decide)
  have e2 := e 24 (by decide)
  have e3 := e 25 (by decide)
  have e4 := e 26 (by decide)
  have e5 := e 27 (by decide)
  have e6 := e 28 (by decide)
  have e7 := e 29 (by decide)
  have e8 := e 30 (by decide)
  have e9 := e 33 (by decide)
  obtain ⟨h1, h2, h3, h4, h5, h6, h7, h8⟩ := h
  exact ⟨by rw [e0]; exact h1, by rw [e0]; exact h2, by rw [e0]; exact h3, by rw [e0]; exact h4, fun p hp => by rw [e1]; exact h5 p hp, fun p hp => by rw [e2]; exact h6 p hp, fun i hi => by rw [e3, e4, e5, e6, e7, e8]; exact h7 i hi, fun k hk => by rw [e9]; exact h8 k hk⟩
theorem gD22.b (h : gD22 s r t D ld C W md m wk tv σ) (hm : m ≤ md) : gB 22 25 26 C W m σ := ⟨h.2.2.2.1, fun i hi => ⟨(h.2.2.2.2.2.2.1 i (by omega)).1, (h.2.2.2.2.2.2.1 i (by omega)).2.1⟩⟩
def E22 : List Nat := [22, 23, 24, 25, 26, 27, 28, 29, 30, 31, 32, 33, 13, 14, 81, 82, 83, 84, 85, 86, 87, 88]
theorem g22_putE {T : Int32} {d : Nat} (hL : lOK s r t) (hC : LC s r t σ) (hV : isC s r C m) (hm : m ≤ s * r ∧ 1 ≤ m) (hT : T = W (m - 1)) (hD : gD22 s r t D ld C W m m (m / 4) T σ) : ∀ n, Pl PRG n d 63 262 [(0, .ref 22)] [] σ (fun _ s' => gC22 s r t D ld C W m s' ∧ exc E22 σ s') := by
  intro n
  have hN := hL.2.2.2.2.1
  refine Pl.pos (fun n1 h1 => p_63_262 σ (fun w2 σ2 h2 => ?_))
  obtain ⟨rfl, rfl⟩ := g22_62 (C := C) (W := W) (ld := ld) h2 hL hC hD.2.2.2.1 (by omega) (hD.2.2.1.trans hT) (fun e => by
    rw [hD.2.2.2.2.2.2.2 _ (by omega), show 4 * (m / 4 - 1) = m - 4 by omega])
  refine ⟨?_, ((exc.refl σ2).put rfl).put rfl⟩
  obtain ⟨d1, d2, d3, d4, d5, d6, d7, d8⟩ := hD
  exact ⟨by rw [s1_off (by omega), s1_off (by omega)]; exact d1, by rw [s1_off (by omega), s1_off (by omega)]; exact d2, by rw [s1_off (by omega), s1_on], by rw [s1_off (by omega), s1_off (by omega)]; exact d4, fun p hp => by rw [s1_off (by omega), s1_off (by omega)]; exact d5 p hp, fun p hp => by rw [s1_off (by omega), s1_off (by omega)]; exact d6 p hp, fun i hi => by
    iterate 12 rw [s1_off (by omega)]
    exact d7 i hi, fun k hk => by rw [s1_off (by omega), s1_off (by omega)]; exact d8 k hk⟩
theorem gD22.lift {C' W' : Nat → Int32} (h : gD22 s r t D ld C W m m (m / 4) tv σ) (hC' : ∀ k, k < m → C k = C' k) (hW' : ∀ k, k < m → W k = W' k) : gD22 s r t D ld C' W' m m (m / 4) tv σ := by
  obtain ⟨h1, h2, h3, h4, h5, h6, h7, h8⟩ := h
  refine ⟨h1, h2, h3, h4, h5, fun p hp => by rw [← hnF_cg hC' hW']; exact h6 p hp, fun i hi => (h7 i hi).cg (fun k hk => hC' k (by omega)) (fun k hk => hW' k (by omega)), fun k hk => ?_⟩
  have hr := bsF_rg (r := r) (t := t) (C := C) (4 * k) 3
  rw [← bsF_cg 3 (fun i hi => hC' i (by omega)), ← hW' _ (by omega)]
  exact h8 k hk
theorem g22_putK {T : Int32} {d p : Nat} {B σ0 : Sg} (hL : lOK s r t) (hC : LC s r t B) (hV : isC s r C (m + 1)) (hm : m < s * r) (hT : W m = T ∧ T = nI p ∧ p < 4) (hx : C m = x) (hD : gD22 s r t D ld C W (m + 1) m (m / 4) T B) (hf : exc E22 σ0 B) : ∀ w8 σ7, RCx PRG n 39 [.ref 22, .int x] B (some (.int w8)) σ7 → inR (nI m) 16 = true → inR (σ7.1 22 6) 4 = true → ∀ σ9, RCx PRG n 11 [.ref 12, .int (σ7.1 24 (σ7.1 22 6).toNatClampNeg)] (s1 σ7 31 (nI m).toNatClampNeg w8) none σ9 → inR (σ9.1 22 7) 16 = true → ∀ w11 σ10, RCx PRG n 13 [.ref 12, .int (σ9.1 31 (σ9.1 22 7).toNatClampNeg)] σ9 (some (.int w11)) σ10 → inR (σ9.1 22 7) 16 = true → inR (σ10.1 22 6) 4 = true → inR (σ10.1 22 6) 4 = true → ((((σ10.1 22 7) + (1 : Int32)) - ((σ10.1 22 7) + (1 : Int32)) / (4 : Int32) * (4 : Int32)) = 0 → (∀ w13 σ12, RCx PRG n 45 [.ref 22, .int (((σ10.1 22 7) + (1 : Int32)) - (4 : Int32))] (s1 (s1 (s1 σ10 32 (σ9.1 22 7).toNatClampNeg w11) 24 (σ10.1 22 6).toNatClampNeg ((σ10.1 24 (σ10.1 22 6).toNatClampNeg) &&& (((1 : Int32) <<< (x &&& 31)) ^^^ (-1 : Int32)))) 22 7 ((σ10.1 22 7) + (1 : Int32))) (some (.int w13)) σ12 → (inR w13 16 = true → (inR ((((σ10.1 22 7) + (1 : Int32)) / (4 : Int32)) - (1 : Int32)) 4 = true → Pl PRG n d 63 262 [(0, .ref 22)] [] (s1 σ12 33 ((((σ10.1 22 7) + (1 : Int32)) / (4 : Int32)) - (1 : Int32)).toNatClampNeg (σ12.1 26 w13.toNatClampNeg)) (fun _ s' => gC22 s r t D ld C W (m + 1) s' ∧ exc E22 σ0 s'))))) ∧ (¬ (((σ10.1 22 7) + (1 : Int32)) - ((σ10.1 22 7) + (1 : Int32)) / (4 : Int32) * (4 : Int32)) = 0 → Pl PRG n d 63 262 [(0, .ref 22)] [] (s1 (s1 (s1 σ10 32 (σ9.1 22 7).toNatClampNeg w11) 24 (σ10.1 22 6).toNatClampNeg ((σ10.1 24 (σ10.1 22 6).toNatClampNeg) &&& (((1 : Int32) <<< (x &&& 31)) ^^^ (-1 : Int32)))) 22 7 ((σ10.1 22 7) + (1 : Int32))) (fun _ s' => gC22 s r t D ld C W (m + 1) s' ∧ exc E22 σ0 s')) := by
  intro w8 σ7 h39 _ _ σ9 h11 _ w11 σ10 h13 _ _ _
  have hN := hL.2.2.2.2.1
  have f1 : exc [13, 14, 31, 81, 82, 83, 84, 85, 86, 87, 88] B σ9 := ((frJ h39 rfl rfl).sub (subE_ok rfl)).trans (((exc.refl σ7).put rfl).trans ((frJ h11 rfl rfl).sub (subE_ok rfl)))
  have f2 : exc [13, 14, 31, 81, 82, 83, 84, 85, 86, 87, 88] B σ10 := f1.trans ((frJ h13 rfl rfl).sub (subE_ok rfl))
  have D9 := hD.fr f1 rfl
  have D10 := hD.fr f2 rfl
  have C10 := hC.fr f2 rfl rfl rfl
  obtain ⟨t1, t2, t3⟩ := hT
  have e9 := D9.2.2.2.1
  have e7 := D10.2.2.2.1
  have e6 : σ10.1 22 6 = nI p := D10.2.2.1.trans t2
  have ew := D10.2.2.2.2.2.1 p t3
  rw [e9, e7, e6, nI_clamp (n := p) (by omega), ew, nI_clamp (n := m) (by omega), nI_1, rem_4 (by omega), div_4 (by omega)]
  have DF : ∀ z, gD22 s r t D ld C W (m + 1) (m + 1) (m / 4) T (s1 (s1 (s1 σ10 32 m z) 24 p (hnF D C W p m &&& (((1 : Int32) <<< (x &&& 31)) ^^^ (-1 : Int32)))) 22 7 (nI (m + 1))) ∧ exc E22 σ0 (s1 (s1 (s1 σ10 32 m z) 24 p (hnF D C W p m &&& (((1 : Int32) <<< (x &&& 31)) ^^^ (-1 : Int32)))) 22 7 (nI (m + 1))) := by
    intro z
    refine ⟨?_, (((hf.trans (f2.sub (subE_ok rfl))).put rfl).put rfl).put rfl⟩
    obtain ⟨d1, d2, d3, d4, d5, d6, d7, d8⟩ := D10
    refine ⟨?_, ?_, ?_, s1_on, fun q hq => ?_, fun q hq => ?_, fun i hi => ?_, fun k hk => ?_⟩
    · rw [s1_off (by omega), s1_off (by omega), s1_off (by omega)]; exact d1
    · rw [s1_off (by omega), s1_off (by omega), s1_off (by omega)]; exact d2
    · rw [s1_off (by omega), s1_off (by omega), s1_off (by omega)]; exact d3
    · rw [s1_off (by omega), s1_off (by omega), s1_off (by omega)]; exact d5 q hq
    · by_cases e : q = p
      · subst e
        rw [s1_off (by omega), s1_on, hnF_on (by rw [t1, t2]), hx]
      · rw [s1_off (by omega), s1_off (by omega), s1_off (by omega), hnF_off (fun h => e ((nI_eq (by omega) (by omega)).mp (by rw [← h, t1, t2])))]
        exact d6 q hq
    · have h18 := d7 i hi
      iterate 18 rw [s1_off (by omega)]
      exact h18
    · rw [s1_off (by omega), s1_off (by omega), s1_off (by omega)]; exact d8 k hk
  have CF : ∀ z, LC s r t (s1 (s1 (s1 σ10 32 m z) 24 p (hnF D C W p m &&& (((1 : Int32) <<< (x &&& 31)) ^^^ (-1 : Int32)))) 22 7 (nI (m + 1))) := fun z => C10.fr (E := [32, 24, 22]) ((((exc.refl σ10).put rfl).put rfl).put rfl) rfl rfl rfl
  obtain ⟨DF1, DF2⟩ := DF w11
  have CF1 := CF w11
  generalize s1 (s1 (s1 σ10 32 m w11) 24 p (hnF D C W p m &&& (((1 : Int32) <<< (x &&& 31)) ^^^ (-1 : Int32)))) 22 7 (nI (m + 1)) = F at DF1 DF2 CF1 ⊢
  have t4 : T = W (m + 1 - 1) := t1.symm
  refine ⟨fun c w13 σ12 h45 _ _ => ?_, fun c => ?_⟩
  · have c4 : (m + 1) % 4 = 0 := (nI_eq (b := 0) (by omega) (by decide)).mp c
    rw [show nI (m + 1) - (4 : Int32) = nI (m + 1 - 4) by rw [nI_4, nI_subI (by omega)]] at h45
    obtain ⟨rfl, rfl⟩ := g22_45 h45 hL CF1 (DF1.b (Nat.le_refl _)) hV (by omega) (by omega)
    have hr := bsF_rg (r := r) (t := t) (C := C) (m + 1 - 4) 3
    rw [show nI ((m + 1) / 4) - 1 = nI ((m + 1) / 4 - 1) from nI_subI (a := (m + 1) / 4) (b := 1) (by omega), nI_clamp (by omega), nI_clamp (by omega), ((DF1.b (Nat.le_refl _)).2 _ (by omega)).2]
    refine Pl.mono (g22_putE hL (CF1.fr (E := [33]) ((exc.refl σ12).put rfl) rfl rfl rfl) hV (by omega) t4 ?_ n) (fun v s' hq => ⟨hq.1, (DF2.put rfl).trans hq.2⟩)
    obtain ⟨d1, d2, d3, d4, d5, d6, d7, d8⟩ := DF1
    refine ⟨?_, ?_, ?_, ?_, fun q hq => ?_, fun q hq => ?_, fun i hi => ?_, fun k hk => ?_⟩
    · rw [s1_off (by omega)]; exact d1
    · rw [s1_off (by omega)]; exact d2
    · rw [s1_off (by omega)]; exact d3
    · rw [s1_off (by omega)]; exact d4
    · rw [s1_off (by omega)]; exact d5 q hq
    · rw [s1_off (by omega)]; exact d6 q hq
    · have h6 := d7 i hi
      iterate 6 rw [s1_off (by omega)]
      exact h6
    · by_cases e : k = (m + 1) / 4 - 1
      · subst e
        rw [s1_on, show 4 * ((m + 1) / 4 - 1) = m + 1 - 4 by omega]
      · rw [s1_off (by omega)]; exact d8 k (by omega)
  · have c4 : ¬ (m + 1) % 4 = 0 := fun e => c (by rw [e]; rfl)
    refine Pl.mono (g22_putE hL CF1 hV (by omega) t4 ?_ n) (fun v s' hq => ⟨hq.1, DF2.trans hq.2⟩)
    rw [show (m + 1) / 4 = m / 4 by omega]
    exact DF1
theorem g22_SN {p c : Nat} {b : Int32} (hG : gC22 s r t D ld C W m σ) (hp : tnF (s * r) r t ld C W m = nI p) (hx : x = nI c) (hb : b = brF s r D (upF C m x) (upF W m (nI p)) m) : gD22 s r t D ld (upF C m x) (upF W m (nI p)) (m + 1) m (m / 4) (nI p) (s1 (s1 (s1 (s1 (s1 (s1 σ 25 m x) 26 m (nI p)) 28 m (ldG r C m)) 27 m (kdG r x (ldG r C m))) 29 m (bfF r C W (nI p) (suF r x) m)) 30 m b) := by
  have hC : ∀ k, k < m → C k = upF C m x k := fun k hk => (upF_off (by omega)).symm
  have hW : ∀ k, k < m → W k = upF W m (nI p) k := fun k hk => (upF_off (by omega)).symm
  have h0 := hG.lift hC hW
  obtain ⟨d1, d2, d3, d4, d5, d6, d7, d8⟩ := h0
  refine ⟨?_, ?_, ?_, ?_, fun q hq => ?_, fun q hq => ?_, fun i hi => ?_, fun k hk => ?_⟩
  · iterate 6 rw [s1_off (by omega)]
    exact d1
  · iterate 6 rw [s1_off (by omega)]
    exact d2
  · iterate 6 rw [s1_off (by omega)]
    exact d3.trans hp
  · iterate 6 rw [s1_off (by omega)]
    exact d4
  · iterate 6 rw [s1_off (by omega)]
    exact d5 q hq
  · iterate 6 rw [s1_off (by omega)]
    exact d6 q hq
  · by_cases e : i = m
    · subst e
      refine ⟨?_, ?_, ?_, ?_, ?_, ?_⟩
      · iterate 5 rw [s1_off (by omega)]
        rw [s1_on, upF_on]
      · iterate 4 rw [s1_off (by omega)]
        rw [s1_on, upF_on]
      · iterate 2 rw [s1_off (by omega)]
        rw [s1_on]
        unfold kdF
        rw [upF_on, ← ldG_cg hC]
      · iterate 3 rw [s1_off (by omega)]
        rw [s1_on, ← ldG_cg hC]
      · iterate 1 rw [s1_off (by omega)]
        rw [s1_on, upF_on, upF_on, ← bfF_cg i hC hW]
      · rw [s1_on, hb]
    · have h36 := d7 i (by omega)
      iterate 36 rw [s1_off (by omega)]
      exact h36
  · iterate 6 rw [s1_off (by omega)]
    exact d8 k hk
theorem g22_63 (h : RCx PRG n 63 [.ref 22, .int x] σ none σ1) (hL : lOK s r t) (hC : LC s r t σ) (hG : gC22 s r t D ld C W m σ) (hV : gV s r t D ld C W m) (hm : m < s * r) (hx : ∃ c, c < s * r ∧ x = nI c) : gC22 s r t D ld (upF C m x) (upF W m (tnF (s * r) r t ld C W m)) (m + 1) σ1 ∧ exc E22 σ σ1 := by
  obtain ⟨p, hp, ep⟩ := hV.turn hm
  obtain ⟨c, hc, ex⟩ := hx
  have hN := hL.2.2.2.2.1
  have hVC : isC s r C m := hV.2.2.1
  have hCu : ∀ k, k < m → C k = upF C m x k := fun k hk => (upF_off (by omega)).symm
  have hWu : ∀ k, k < m → W k = upF W m (nI p) k := fun k hk => (upF_off (by omega)).symm
  have hVu : isC s r (upF C m x) (m + 1) := fun i hi => by
    by_cases e : i = m
    · subst e; rw [upF_on]; exact ⟨c, hc, ex⟩
    · rw [upF_off e]; exact hVC i (by omega)
  have hB := gD22.b hG (Nat.le_refl _)
  rw [ep]
  refine h.by (Q := fun _ s' => gC22 s r t D ld (upF C m x) (upF W m (nI p)) (m + 1) s' ∧ exc E22 σ s') (fun n d => p_63_0 σ x ?_)
  have e6 : σ.1 22 6 = nI p := hG.2.2.1.trans ep
  have e7 := hG.2.2.2.1
  rw [e6, e7]
  have e16 : (16 : Int32) = nI 16 := by decide
  refine ⟨fun c1 => absurd c1 (nI_pos (by omega)), fun _ => ⟨fun c1 => absurd ((nI_leI (a := 16) (b := m) (by decide) (by omega)).mp (by rw [← e16]; exact c1)) (by omega), fun _ => ⟨fun c1 => absurd c1 (by rw [ex]; exact nI_pos (by omega)), fun _ => ⟨fun _ w2 σ2 h34 => ?_, fun c1 => absurd (by rw [ex, e16]; exact nI_lt (by omega) (by decide)) c1⟩⟩⟩⟩
  obtain ⟨hs2, rfl⟩ := g22_34 h34 hL hC hB hVC (by omega)
  rw [hs2, e6, e7, nI_clamp (n := m) (by omega)]
  intro _ _ _ w4 σ4 h37
  have C1 : LC s r t (s1 (s1 (s1 σ 25 m x) 26 m (nI p)) 28 m (ldG r C m)) := hC.fr (E := [25, 26, 28]) ((((exc.refl σ).put rfl).put rfl).put rfl) rfl rfl rfl
  obtain ⟨hs4, rfl⟩ := g22_37 h37 hL C1 ⟨c, hc, ex⟩
  intro _ w6 σ6 h36
  have C2 : LC s r t (s1 σ4 27 m (kdG r x (ldG r C m))) := by
    rw [hs4]; exact C1.fr (E := [27]) ((exc.refl _).put rfl) rfl rfl rfl
  have B2 : gB 22 25 26 C W m (s1 σ4 27 m (kdG r x (ldG r C m))) := by
    rw [hs4]
    refine ⟨?_, fun i hi => ⟨?_, ?_⟩⟩
    · iterate 4 rw [s1_off (by omega)]
      exact e7
    · iterate 4 rw [s1_off (by omega)]
      exact (hB.2 i hi).1
    · iterate 4 rw [s1_off (by omega)]
      exact (hB.2 i hi).2
  have T2 : (s1 σ4 27 m (kdG r x (ldG r C m))).1 22 6 = nI p := by
    rw [hs4]
    iterate 4 rw [s1_off (by omega)]
    exact e6
  obtain ⟨hs6, rfl⟩ := g22_36 h36 hL C2 B2 hVC (by omega) ⟨c, hc, ex⟩ T2
  have e47 : σ4.1 22 7 = nI m := by
    rw [hs4]
    iterate 3 rw [s1_off (by omega)]
    exact e7
  have e67 : σ6.1 22 7 = nI m := by
    rw [hs6, s1_off (by omega)]; exact e47
  have e66 : σ6.1 22 6 = nI p := by
    rw [hs6]; exact T2
  have ek : σ6.1 27 m = kdG r x (ldG r C m) := by rw [hs6, s1_on]
  have C6 : LC s r t σ6 := by rw [hs6]; exact C2
  have ew : σ6.1 24 p = hnF D C W p m := by
    rw [hs6, hs4]
    iterate 4 rw [s1_off (by omega)]
    exact hG.2.2.2.2.2.1 p hp
  have k1 : kdF r (upF C m x) m = kdG r x (ldG r C m) := by
    unfold kdF
    rw [upF_on, ← ldG_cg hCu]
  have k2 : hnF D (upF C m x) (upF W m (nI p)) (upF W m (nI p) m).toNatClampNeg m &&& scF s r (ldG r (upF C m x) m) = hnF D C W p m &&& scF s r (ldG r C m) := by
    rw [upF_on, nI_clamp (by omega), ← hnF_cg hCu hWu, ← ldG_cg hCu]
  have fin : ∀ b : Int32, b = brF s r D (upF C m x) (upF W m (nI p)) m → gD22 s r t D ld (upF C m x) (upF W m (nI p)) (m + 1) m (m / 4) (nI p) (s1 (s1 σ6 29 m (bfF r C W (nI p) (suF r x) m)) 30 m b) ∧ LC s r t (s1 (s1 σ6 29 m (bfF r C W (nI p) (suF r x) m)) 30 m b) ∧ exc E22 σ (s1 (s1 σ6 29 m (bfF r C W (nI p) (suF r x) m)) 30 m b) := by
    intro b hb
    refine ⟨?_, C6.fr (E := [29, 30]) (((exc.refl σ6).put rfl).put rfl) rfl rfl rfl, ?_⟩
    · rw [hs6, hs4]
      exact g22_SN hG ep ex hb
    · rw [hs6, hs4]
      exact ((((((exc.refl σ).put rfl).put rfl).put rfl).put rfl).put rfl).put rfl
  rw [e47, e67, e66, nI_clamp (n := m) (by omega), nI_clamp (n := p) (by omega), ek, ew]
  have hT : upF W m (nI p) m = nI p ∧ nI p = nI p ∧ p < 4 := ⟨upF_on, rfl, hp⟩
  intro _ _
  refine ⟨fun c2 _ _ => ?_, fun c2 => ?_⟩
  · obtain ⟨u, hu, eu⟩ := kd_2 hL hVC c2
    have es : σ6.1 9 (ldG r C m).toNatClampNeg = scF s r (ldG r C m) := by
      rw [eu, nI_clamp (by have := hL.2.1; omega)]
      exact C6.2.2.2.2.2.1 u (by have := hL.2.1; omega)
    rw [es]
    refine ⟨fun c3 _ => ?_, fun c3 _ => ?_⟩
    · obtain ⟨q1, q2, q3⟩ := fin 0 (by unfold brF; rw [k1, k2, if_neg (fun h => h.2 c3)])
      have := g22_putK (n := n) (d := d) hL q2 hVu hm hT upF_on q1 q3
      rw [nI_clamp (n := m) (by omega)] at this
      exact this
    · obtain ⟨q1, q2, q3⟩ := fin 1 (by unfold brF; rw [k1, k2, if_pos ⟨c2, c3⟩])
      have := g22_putK (n := n) (d := d) hL q2 hVu hm hT upF_on q1 q3
      rw [nI_clamp (n := m) (by omega)] at this
      exact this
  · intro _
    obtain ⟨q1, q2, q3⟩ := fin 0 (by unfold brF; rw [k1, if_neg (fun h => c2 h.1)])
    have := g22_putK (n := n) (d := d) hL q2 hVu hm hT upF_on q1 q3
    rw [nI_clamp (n := m) (by omega)] at this
    exact this
end H22
