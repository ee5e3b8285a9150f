/-! the games of the class: begun, led, cleared, copied -/
def d4 (a b c d : Int32) : Nat → Int32
  | 0 => a
  | 1 => b
  | 2 => c
  | _ => d
theorem and_all (x : Int32) : x &&& ((0 : Int32) ^^^ (-1)) = x := by
  apply bt_ext
  intro i hi
  rw [bt_and, bt_not _ hi, bt_0]
  simp
theorem hnF_0 {D C W : Nat → Int32} {p : Nat} : hnF D C W p 0 = D p := and_all _
theorem tnF_0 {s r : Nat} {t u ld : Int32} {C W : Nat → Int32} (hL : lOK s r u) : tnF (s * r) r t ld C W 0 = ld := by
  have h1 := Nat.mul_pos hL.1 hL.2.2.1
  unfold tnF
  rw [if_neg (by omega), if_pos rfl, if_pos rfl]
theorem upF_id {C : Nat → Int32} {m : Nat} {x : Int32} (h : x = C m) : upF C m x = C := by
  funext i
  by_cases e : i = m
  · subst e; rw [upF_on]; exact h
  · exact upF_off e
section I22
variable {s r m n : Nat} {t x ld : Int32} {D C W : Nat → Int32} {σ σ1 : Sg} {w : Int32}
def gN22 (σ : Sg) : Prop := σ.1 22 2 = 0 ∧ σ.1 22 6 = -2 ∧ σ.1 22 7 = 0
theorem g22_66 (h : RCx PRG n 66 [.ref 22] σ none σ1) : gN22 σ1 ∧ exc [22] σ σ1 := by
  refine h.by (Q := fun _ s' => gN22 s' ∧ exc [22] σ s') (fun n d => p_66_0 σ ⟨⟨?_, ?_, ?_⟩, ((((exc.refl σ).put rfl).put rfl).put rfl).put rfl⟩)
  · rw [s1_off (by omega), s1_off (by omega), s1_off (by omega), s1_on]
  · rw [s1_off (by omega), s1_on]
  · rw [s1_off (by omega), s1_off (by omega), s1_on]
theorem g22_31 (h : RCx PRG n 31 [.ref 22, .int x] σ none σ1) : σ1 = s1 (s1 (s1 σ 22 5 x) 22 6 x) 22 17 ((σ.1 22 17) + (1 : Int32)) :=
  h.by (Q := fun _ s' => s' = s1 (s1 (s1 σ 22 5 x) 22 6 x) 22 17 ((σ.1 22 17) + (1 : Int32))) (fun n d => p_31_0 σ x rfl)
theorem g22_led (hL : lOK s r t) (hG : gC22 s r t D ld C W 0 σ) {y : Int32} : gC22 s r t D x C W 0 (s1 (s1 (s1 σ 22 5 x) 22 6 x) 22 17 y) ∧ exc E22 σ (s1 (s1 (s1 σ 22 5 x) 22 6 x) 22 17 y) := by
  refine ⟨?_, (((exc.refl σ).put rfl).put rfl).put rfl⟩
  obtain ⟨d1, d2, d3, d4, d5, d6, d7, d8⟩ := hG
  refine ⟨?_, ?_, ?_, ?_, fun q hq => ?_, fun q hq => ?_, fun i hi => absurd hi (Nat.not_lt_zero _), fun k hk => absurd hk (Nat.not_lt_zero _)⟩
  · rw [s1_off (by omega), s1_off (by omega), s1_off (by omega)]; exact d1
  · rw [s1_off (by omega), s1_off (by omega), s1_on]
  · rw [s1_off (by omega), s1_on, tnF_0 hL]
  · rw [s1_off (by omega), s1_off (by omega), s1_off (by omega)]; exact d4
  · rw [s1_off (by omega), s1_off (by omega), s1_off (by omega)]; exact d5 q hq
  · rw [s1_off (by omega), s1_off (by omega), s1_off (by omega)]; exact d6 q hq
theorem g22_32 {x1 x2 x3 x4 : Int32} (h : RCx PRG n 32 [.ref 22, .int x1, .int x2, .int x3, .int x4] σ none σ1) (hL : lOK s r t) (C W : Nat → Int32) : gC22 s r t (d4 x1 x2 x3 x4) 0 C W 0 σ1 ∧ exc E22 σ σ1 := by
  have loop : ∀ d n j (σ' : Sg), j ≤ 4 → (∀ p, p < 4 → σ'.1 23 p = d4 x1 x2 x3 x4 p) → (∀ p, p < j → σ'.1 24 p = d4 x1 x2 x3 x4 p) → exc E22 σ σ' → Pl PRG n d 32 32 [(0, .ref 22), (5, .int (nI j))] [] σ' (fun _ s' => gC22 s r t (d4 x1 x2 x3 x4) 0 C W 0 s' ∧ exc E22 σ s') := by
    intro d n
    induction n using Nat.strongRecOn with
    | _ n ih =>
      intro j σ' hj hd hw hf
      refine Pl.pos (fun n1 h1 => p_32_32 σ' (nI j) ?_)
      refine ⟨fun c σ2 h2 => ?_, fun c _ _ => ?_⟩
      · have hj4 : j = 4 := by
          have := (nI_leI (a := 4) (b := j) (by decide) (by omega)).mp c
          omega
        subst hj4
        have e := g22_31 h2
        subst e
        refine ⟨⟨?_, ?_, ?_, ?_, fun q hq => ?_, fun q hq => ?_, fun i hi => absurd hi (Nat.not_lt_zero _), fun k hk => absurd hk (Nat.not_lt_zero _)⟩, ((((hf.put rfl).put rfl).put rfl).put rfl).put rfl⟩
        · iterate 4 rw [s1_off (by omega)]
          rw [s1_on]
        · iterate 2 rw [s1_off (by omega)]
          rw [s1_on]
        · rw [s1_off (by omega), s1_on, tnF_0 hL]
        · iterate 3 rw [s1_off (by omega)]
          rw [s1_on]; rfl
        · iterate 5 rw [s1_off (by omega)]
          exact hd q hq
        · iterate 5 rw [s1_off (by omega)]
          rw [hnF_0]
          exact hw q hq
      · have hlt : j < 4 := nle_of (a := 4) (b := j) (by decide) (by omega) c
        rw [nI_1, nI_clamp (by omega)]
        refine ih n1 (by omega) (j + 1) _ (by omega) (fun p hp => by rw [s1_off (by omega)]; exact hd p hp) (fun p hp => ?_) (hf.put rfl)
        by_cases e : p = j
        · subst e; rw [s1_on]; exact hd p (by omega)
        · rw [s1_off (by omega)]; exact hw p (by omega)
  refine h.by (Q := fun _ s' => gC22 s r t (d4 x1 x2 x3 x4) 0 C W 0 s' ∧ exc E22 σ s') (fun n d => p_32_0 σ x1 x2 x3 x4 ?_)
  refine loop d n 0 _ (by decide) (fun p hp => ?_) (fun p hp => absurd hp (Nat.not_lt_zero _)) (((((exc.refl σ).put rfl).put rfl).put rfl).put rfl)
  rcases (show p = 0 ∨ p = 1 ∨ p = 2 ∨ p = 3 by omega) with rfl | rfl | rfl | rfl
  · iterate 3 rw [s1_off (by omega)]
    rw [s1_on]; rfl
  · iterate 2 rw [s1_off (by omega)]
    rw [s1_on]; rfl
  · rw [s1_off (by omega), s1_on]; rfl
  · rw [s1_on]; rfl
theorem gC22.eqD {D' : Nat → Int32} (h : gC22 s r t D ld C W m σ) (hD : ∀ p, p < 4 → D p = D' p) (hW : ∀ i, i < m → ∃ w, w < 4 ∧ W i = nI w) : gC22 s r t D' ld C W m σ := by
  obtain ⟨h1, h2, h3, h4, h5, h6, h7, h8⟩ := h
  refine ⟨h1, h2, h3, h4, fun p hp => by rw [← hD p hp]; exact h5 p hp, fun p hp => by unfold hnF; rw [← hD p hp]; exact h6 p hp, fun i hi => ?_, h8⟩
  obtain ⟨q1, q2, q3, q4, q5, q6⟩ := h7 i hi
  refine ⟨q1, q2, q3, q4, q5, ?_⟩
  obtain ⟨w, hw, ew⟩ := hW i hi
  have e : brF s r D C W i = brF s r D' C W i := by
    unfold brF hnF
    rw [ew, nI_clamp (by omega), hD w hw]
  rw [← e]; exact q6
end I22
