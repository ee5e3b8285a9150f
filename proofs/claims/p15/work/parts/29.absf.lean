/-! ranges: cuts and promises, sound -/
section AbsF
variable {P : List MI} {TY : List (List SEG)} {I : Sg → Prop} {dep ms : List (Nat × Nat × Nat)} {env : List (Nat × SP)} {sp : SP} {mi : Nat} {M0 : MI} {av : List Value} {σ0 σ : Sg} {ρ0 ρ : List Value} {S : List SI} {L : List (Nat × Nat)} {K : List Nat} {M : List ME} {ls : Lcl} {st : List Value}
theorem instA_ok (ht : typed TY σ) : ∀ {ss : List ((Nat × Nat × Nat) × (Nat × Int × Int))} {S S1 : List SI} {M M1 : List ME} {θ θ1 : List Nat} {ρ : List Value}, Rel ρ0 ρ (S, L, K, M) ls st σ → (∀ x ∈ θ, ∃ v, ρ[x]? = some v) → instA TY ss S M L θ = some (S1, M1, θ1) → ∃ r, Rel ρ0 (ρ ++ r) (S1, L, K, M1) ls st σ ∧ ∀ x ∈ θ1, ∃ v, (ρ ++ r)[x]? = some v
  | [], S, S1, M, M1, θ, θ1, ρ, h, hθ, hi => by
    cases hi
    exact ⟨[], by rw [List.append_nil]; exact ⟨h, hθ⟩⟩
  | s :: ss, S, S1, M, M1, θ, θ1, ρ, h, hθ, hi => by
    have hadd : ∀ {ρ' : List Value} {x : Nat} {v : Value}, (∀ y ∈ θ, ∃ v, ρ'[y]? = some v) → ρ'[x]? = some v → ∀ y ∈ θ ++ [x], ∃ v, ρ'[y]? = some v := fun h1 h2 y hy => by
      rcases List.mem_append.mp hy with hy | hy
      · exact h1 y hy
      · rw [List.mem_singleton.mp hy]; exact ⟨_, h2⟩
    simp only [instA] at hi
    split at hi
    · split at hi
      · rename_i x hx
        obtain ⟨v, g1, g2⟩ := h.2.2.1 _ (lookup_mem hx)
        exact instA_ok ht (ss := ss) h (hadd hθ g2) hi
      · cases hi
    · split at hi
      · rename_i o ho
        split at hi
        · rename_i htg
          split at hi
          · rename_i v hv
            obtain ⟨e, he, hp, rfl⟩ := fdM_some hv
            unfold mF at hp
            simp only [Bool.and_eq_true] at hp
            have hok := h.2.2.2.2.1 e he
            unfold memOK at hok
            rw [Nat.eq_of_beq_eq_true hp.1] at hok
            obtain ⟨q', k1, k2⟩ := hok
            exact instA_ok ht (ss := ss) h (hadd hθ k2) hi
          · obtain ⟨q, g1, g2⟩ := h.ref (tag_eq htg)
            have hb := ldRg_ok ht (h.kind g1) (Nat.le_refl s.1.2.2) (Nat.le_refl s.1.2.2)
            have hg := h.grow (v := .int (σ.1 q s.1.2.2)) (okS_new h.1 hb.1 hb.2)
            obtain ⟨r, e1, e2⟩ := instA_ok ht (ss := ss) (memAdd hg.1 (e := (0, o, s.1.2.2, S.length)) ⟨q, at_app _ g1, hg.2⟩) (hadd (fun y hy => by obtain ⟨v, hv⟩ := hθ y hy; exact ⟨v, at_app _ hv⟩) hg.2) hi
            exact ⟨_, by rw [List.append_assoc] at e1 e2; exact ⟨e1, e2⟩⟩
        · cases hi
      · cases hi
    · split at hi
      · split at hi
        · rename_i v hv
          obtain ⟨e, he, hp, rfl⟩ := fdM_some hv
          unfold mR at hp
          simp only [Bool.and_eq_true] at hp
          have hok := h.2.2.2.2.1 e he
          unfold memOK at hok
          rw [Nat.eq_of_beq_eq_true hp.1] at hok
          obtain ⟨q', k1, k2⟩ := hok
          exact instA_ok ht (ss := ss) h (hadd hθ k2) hi
        · cases hi
      · cases hi
    · cases hi
theorem arsC_ok (h : Rel ρ0 ρ (S, L, K, M) ls st σ) : ∀ {ss : List ((Nat × Nat × Nat) × (Nat × Int × Int))} {θ : List Nat}, (∀ x ∈ θ, ∃ v, ρ[x]? = some v) → arsC S ss θ = true → θ.length = ss.length ∧ ∀ (i : Nat) s, ss[i]? = some s → ∃ x v, θ[i]? = some x ∧ ρ[x]? = some v ∧ avOK s.2 v
  | [], [], _, _ => ⟨rfl, fun i s h => by cases h⟩
  | [], _ :: _, _, h => by cases h
  | _ :: _, [], _, h => by cases h
  | s :: ss, x :: θ, hθ, ha => by
    simp only [arsC, Bool.and_eq_true] at ha
    obtain ⟨g1, g2⟩ := arsC_ok h (ss := ss) (θ := θ) (fun y hy => hθ y (List.mem_cons_of_mem _ hy)) ha.2
    refine ⟨by simp [g1], ?_⟩
    intro i s' hs
    cases i with
    | zero =>
      cases hs
      obtain ⟨v, hv⟩ := hθ x List.mem_cons_self
      exact ⟨x, v, rfl, hv, arA_ok h ha.1 hv⟩
    | succ i => exact g2 i s' hs
theorem sameN_ok (h : Rel ρ0 ρ (S, L, K, M) ls st σ) {θ : List Nat} {s t : Nat} {v : Value} (hs : sameN S θ s t = true) (hv : ρ[s]? = some v) : ∃ x, θ[t]? = some x ∧ ρ[x]? = some v := by
  unfold sameN at hs
  split at hs
  · rename_i x hx
    refine ⟨x, hx, ?_⟩
    have hs2 := hs
    unfold eqS at hs
    simp only [Bool.or_eq_true, Bool.and_eq_true] at hs
    rcases hs with e | ⟨t1, t2, -⟩
    · rw [← Nat.eq_of_beq_eq_true e]; exact hv
    · obtain ⟨w, rfl⟩ := h.isI hv (tag_eq t1)
      obtain ⟨w2, f1, -⟩ := h.int (tag_eq t2)
      rw [f1, eqS_ok h hs2 hv f1]
  · cases hs
theorem cutS_at : ∀ {ss : List ((Nat × Nat × Nat) × (Nat × Int × Int))} {n i : Nat} {si : SI}, (cutS n ss)[i]? = some si → ∃ s, ss[i]? = some s ∧ si = (s.2.1, s.2.2.1, s.2.2.2, n + i, 0, [])
  | [], _, _, _, h => by cases h
  | s :: ss, n, 0, si, h => by cases h; exact ⟨s, rfl, rfl⟩
  | s :: ss, n, i + 1, si, h => by
    obtain ⟨s', h1, h2⟩ := cutS_at (ss := ss) (n := n + 1) (i := i) h
    exact ⟨s', h1, by rw [h2]; congr 4; omega⟩
theorem cutS_len : ∀ (ss : List ((Nat × Nat × Nat) × (Nat × Int × Int))) (n : Nat), (cutS n ss).length = ss.length
  | [], _ => rfl
  | s :: ss, n => by simp [cutS, cutS_len ss (n + 1)]
theorem okS_av {r : List Value} {t : Nat × Int × Int} {v : Value} {i : Nat} (h : avOK t v) (hi : r[i]? = some v) : okS r (t.1, t.2.1, t.2.2, i, 0, []) v := by
  obtain ⟨t0, t1, t2⟩ := t
  unfold avOK at h
  unfold okS
  simp only at h ⊢
  split at h
  · obtain ⟨w, rfl, h1, h2⟩ := h
    exact ⟨w, rfl, h1, h2, ⟨w.toInt, ⟨w, hi, rfl⟩, by omega⟩, fun _ t ht => absurd ht List.not_mem_nil⟩
  · exact h
  · exact h
  · exact False.elim h
theorem okB_ok (h : Rel ρ0 ρ (S, L, K, M) ls st σ) {m : Int × Int × Nat} (hb : okB S m = true) : 0 ≤ mvl ρ m ∧ mvl ρ m < (BB : Int) := by
  unfold okB at hb
  simp only [Bool.and_eq_true, Bool.or_eq_true, decide_eq_true_eq] at hb
  obtain ⟨h1, h2⟩ := hb
  unfold mvl
  unfold bnd at h2
  rcases h1 with e | ⟨e, ht⟩
  · rw [if_pos e] at h2
    rw [e]
    simp only [Int.zero_mul, Int.add_zero]
    exact h2
  · obtain ⟨w, f1, f2, f3, -⟩ := h.int (tag_eq ht)
    rw [f1]
    rcases e with e | e
    · rw [e] at h2 ⊢
      rw [if_neg (by decide), if_pos rfl] at h2
      simp only at h2 ⊢
      omega
    · rw [e] at h2 ⊢
      rw [if_neg (by decide), if_neg (by decide)] at h2
      simp only at h2 ⊢
      omega
theorem cmpM_ok (h : Rel ρ0 ρ (S, L, K, M) ls st σ) {m0 m1 : Int × Int × Nat} : (cmpM S m0 m1 = 1 → mvl ρ m1 < mvl ρ m0) ∧ (cmpM S m0 m1 = 2 → mvl ρ m1 = mvl ρ m0) := by
  unfold cmpM
  split
  · rename_i e0
    split
    · rename_i e1
      unfold mvl
      rw [e0, e1]
      simp only [Int.zero_mul, Int.add_zero]
      split
      · rename_i hl; exact ⟨fun _ => hl, fun e => by cases e⟩
      · split
        · rename_i hl; exact ⟨fun e => by (cases e), fun _ => hl⟩
        · exact ⟨fun e => by (cases e), fun e => by cases e⟩
    · exact ⟨fun e => by (cases e), fun e => by cases e⟩
  · split
    · rename_i hc
      obtain ⟨e1, t0, t1, e2⟩ := hc
      obtain ⟨w0, f1, -, -, y0, ⟨u0, p1, p2⟩, p3⟩ := h.int (tag_eq t0)
      obtain ⟨w1, g1, -, -, y1, ⟨u1, q1, q2⟩, q3⟩ := h.int (tag_eq t1)
      rw [e2, q1] at p1
      cases p1
      have v0 : mvl ρ m0 = m0.1 + m0.2.1 * (gS S m0.2.2).2.2.2.2.1 + m0.2.1 * y0 := by
        unfold mvl
        rw [f1]
        simp only
        rw [p3, Int.mul_add]
        omega
      have v1 : mvl ρ m1 = m1.1 + m1.2.1 * (gS S m1.2.2).2.2.2.2.1 + m0.2.1 * y0 := by
        unfold mvl
        rw [g1]
        simp only
        rw [q3, Int.mul_add, ← q2, p2, e1]
        omega
      split
      · rename_i hl; exact ⟨fun _ => by omega, fun e => by cases e⟩
      · split
        · rename_i hl; exact ⟨fun e => by (cases e), fun _ => by omega⟩
        · exact ⟨fun e => by (cases e), fun e => by cases e⟩
    · exact ⟨fun e => by (cases e), fun e => by cases e⟩
theorem enc_lt (h : Rel ρ0 ρ (S, L, K, M) ls st σ) : ∀ {r : List (Int × Int × Nat)}, r.all (okB S) = true → encM ρ r < BB ^ r.length
  | [], _ => by simp [encM]
  | m :: r, hb => by
    simp only [List.all_cons, Bool.and_eq_true] at hb
    have ih := enc_lt h (r := r) hb.2
    have h1 := okB_ok h hb.1
    have h2 : (mvl ρ m).toNat + 1 ≤ BB := by have : (BB : Int) = (BB : Nat) := rfl; omega
    simp only [encM, List.length_cons]
    calc (mvl ρ m).toNat * BB ^ r.length + encM ρ r < (mvl ρ m).toNat * BB ^ r.length + BB ^ r.length := Nat.add_lt_add_left ih _
      _ = ((mvl ρ m).toNat + 1) * BB ^ r.length := by rw [Nat.add_mul, Nat.one_mul]
      _ ≤ BB * BB ^ r.length := Nat.mul_le_mul_right _ h2
      _ = BB ^ (r.length + 1) := by rw [Nat.pow_succ, Nat.mul_comm]
theorem lexA_ok (h : Rel ρ0 ρ (S, L, K, M) ls st σ) : ∀ {r0 r1 : List (Int × Int × Nat)}, lexA S r0 r1 = true → r0.length = r1.length ∧ encM ρ r1 < encM ρ r0
  | [], _, hb => by simp [lexA] at hb
  | _ :: _, [], hb => by simp [lexA] at hb
  | m0 :: r0, m1 :: r1, hb => by
    simp only [lexA, Bool.and_eq_true] at hb
    have h1 := okB_ok h hb.1
    have hc := cmpM_ok h (m0 := m0) (m1 := m1)
    have hb2 := hb.2
    split at hb2
    · rename_i e
      rw [Bool.and_eq_true] at hb2
      have hl := Nat.eq_of_beq_eq_true hb2.1
      have hlt := hc.1 e
      have he := enc_lt h hb2.2
      refine ⟨by simp [hl], ?_⟩
      simp only [encM]
      have h2 : (mvl ρ m1).toNat + 1 ≤ (mvl ρ m0).toNat := by omega
      calc (mvl ρ m1).toNat * BB ^ r1.length + encM ρ r1 < (mvl ρ m1).toNat * BB ^ r1.length + BB ^ r1.length := Nat.add_lt_add_left he _
        _ = ((mvl ρ m1).toNat + 1) * BB ^ r1.length := by rw [Nat.add_mul, Nat.one_mul]
        _ ≤ (mvl ρ m0).toNat * BB ^ r1.length := Nat.mul_le_mul_right _ h2
        _ = (mvl ρ m0).toNat * BB ^ r0.length := by rw [hl]
        _ ≤ (mvl ρ m0).toNat * BB ^ r0.length + encM ρ r0 := Nat.le_add_right _ _
    · rename_i e
      obtain ⟨g1, g2⟩ := lexA_ok h (r0 := r0) (r1 := r1) hb2
      refine ⟨by simp [g1], ?_⟩
      simp only [encM]
      rw [hc.2 e, g1]
      exact Nat.add_lt_add_left g2 _
    · cases hb2
theorem enc_eq {ρ ρ' : List Value} : ∀ {r : List (Int × Int × Nat)}, (∀ m ∈ r, mvl ρ m = mvl ρ' m) → encM ρ r = encM ρ' r
  | [], _ => rfl
  | m :: r, h => by
    simp only [encM]
    rw [h m List.mem_cons_self, enc_eq (r := r) (fun m hm => h m (List.mem_cons_of_mem _ hm))]
theorem mvl_pre {ρ0 r : List Value} {m : Int × Int × Nat} (hm : m.2.1 = 0 ∨ m.2.2 < ρ0.length) : mvl ρ0 m = mvl (ρ0 ++ r) m := by
  unfold mvl
  rcases hm with e | e
  · rw [e]; simp
  · rw [List.getElem?_append_left e]
theorem arrive_ok {argS : List (Nat × Nat)} {mA : Option (List (Int × Int × Nat))} {C : CUT} {a : AS} (hr : Rel ρ0 ρ a ls st σ) (ht : typed TY σ) (hA : argOK ρ0 av argS) (hwf : wfC C = true) (hmA : ∀ m, mA = some m → ∀ x ∈ m, x.2.1 = 0 ∨ x.2.2 < ρ0.length) (h : arriveA TY argS mA C a = true) : st = [] ∧ ∃ ρ', Rel ρ' ρ' (cutA C) ls [] σ ∧ argOK ρ' av C.2.2.2.2 ∧ ρ'.length = C.1.length ∧ ∀ m, mA = some m → encM ρ' C.2.2.2.1 < encM ρ0 m := by
  obtain ⟨S0, L, K, M⟩ := a
  unfold arriveA at h
  split at h
  · rename_i hK
    simp only at hK
    subst hK
    have hst : st = [] := by
      have := hr.2.2.2.1
      simp only [List.map_nil] at this
      exact (List.map_eq_nil_iff.mp this.symm)
    subst hst
    refine ⟨rfl, ?_⟩
    split at h
    · rename_i S M1 θ hin
      simp only [Bool.and_eq_true] at h
      obtain ⟨b1, b2, b3, b4, b5⟩ := h
      obtain ⟨r, hR, hθ⟩ := instA_ok ht hr (fun x hx => absurd hx List.not_mem_nil) hin
      obtain ⟨hlen, hars⟩ := arsC_ok hR hθ b1
      have hρ : ∀ (i x : Nat) (v : Value), θ[i]? = some x → (ρ ++ r)[x]? = some v → (θ.map (fun x => ((ρ ++ r)[x]?).getD .null))[i]? = some v := by
        intro i x v h1 h2
        rw [List.getElem?_map, h1]
        simp [h2]
      refine ⟨θ.map (fun x => ((ρ ++ r)[x]?).getD .null), ⟨?_, ?_, ?_, rfl, ?_, [], by simp⟩, ?_, by simpa using hlen, ?_⟩
      · simp only [cutA, List.length_map, cutS_len]
        exact hlen
      · intro s si hs
        obtain ⟨s', h1, rfl⟩ := cutS_at hs
        obtain ⟨x, v, g1, g2, g3⟩ := hars s s' h1
        refine ⟨v, hρ s x v g1 g2, ?_⟩
        rw [Nat.zero_add]
        exact okS_av g3 (hρ s x v g1 g2)
      · intro p hp
        have := List.all_eq_true.mp b2 p hp
        split at this
        · rename_i s hs
          obtain ⟨v, g1, g2⟩ := hr.2.2.1 _ (lookup_mem hs)
          obtain ⟨x, k1, k2⟩ := sameN_ok hR this (at_app r g2)
          exact ⟨v, g1, hρ _ x v k1 k2⟩
        · cases this
      · intro e he
        have := List.all_eq_true.mp b3 e he
        unfold memC at this
        rw [Bool.and_eq_true] at this
        have hle2 : e.1 ≤ 2 ∨ e.1 = 6 := (Bool.or_eq_true_iff.mp this.1).imp Nat.le_of_ble_eq_true Nat.eq_of_beq_eq_true
        obtain ⟨e2, he2, hc⟩ := List.any_eq_true.mp this.2
        rw [Bool.and_eq_true] at hc
        have c1 := Nat.eq_of_beq_eq_true hc.1
        have hok := hR.2.2.2.2.1 e2 he2
        by_cases h66 : e.1 = 6
        · have hc2 : sameN S θ e2.2.1 e.2.1 = true ∧ Nat.beq e2.2.2.1 e.2.2.1 = true := by
            rcases Bool.or_eq_true_iff.mp hc.2 with z | z
            · simp only [Bool.and_eq_true] at z; exact z.2
            · simp only [Bool.and_eq_true, Bool.or_eq_true] at z
              refine ⟨z.1, ?_⟩
              rcases z.2.2 with ⟨y, -⟩ | ⟨-, y⟩
              · rw [h66] at y; cases y
              · exact y
          unfold memOK at hok ⊢
          rw [c1, h66] at hok
          rw [h66]
          obtain ⟨x, g1, g2⟩ := hok
          obtain ⟨z, k1, k2⟩ := sameN_ok hR hc2.1 g1
          exact ⟨x, hρ _ z _ k1 k2, by rw [g2]; exact Nat.eq_of_beq_eq_true hc2.2⟩
        have hle2 : e.1 ≤ 2 := hle2.resolve_right h66
        have hc3 : Nat.beq e.1 6 = false := by
          cases hb : Nat.beq e.1 6 with
          | false => rfl
          | true => exact absurd (Nat.eq_of_beq_eq_true hb) h66
        have hc := hc.2
        simp only [hc3, Bool.false_and, Bool.false_or, Bool.and_eq_true, Bool.or_eq_true] at hc
        obtain ⟨c2, c3, c4⟩ := hc
        unfold memOK at hok ⊢
        rw [c1] at hok
        split at hok
        · rename_i e0
          obtain ⟨q, g1, g2⟩ := hok
          have c5 : e2.2.2.1 = e.2.2.1 := by
            rcases c4 with ⟨z, -⟩ | ⟨-, z⟩
            · rw [e0] at z; cases z
            · exact Nat.eq_of_beq_eq_true z
          obtain ⟨x, k1, k2⟩ := sameN_ok hR c2 g1
          obtain ⟨y, l1, l2⟩ := sameN_ok hR c3 g2
          rw [c5] at l2
          exact ⟨q, hρ _ x _ k1 k2, hρ _ y _ l1 l2⟩
        · rename_i e0
          obtain ⟨q, j, g1, g2, g3⟩ := hok
          have c5 : sameN S θ e2.2.2.1 e.2.2.1 = true := by
            rcases c4 with ⟨-, z⟩ | ⟨z, -⟩
            · exact z
            · rw [e0] at z; cases z
          obtain ⟨x, k1, k2⟩ := sameN_ok hR c2 g1
          obtain ⟨y, l1, l2⟩ := sameN_ok hR c3 g3
          obtain ⟨z, m1, m2⟩ := sameN_ok hR c5 g2
          exact ⟨q, j, hρ _ x _ k1 k2, hρ _ z _ m1 m2, hρ _ y _ l1 l2⟩
        · rename_i e0
          obtain ⟨q, g1, g2⟩ := hok
          have c5 : e2.2.2.1 = e.2.2.1 := by
            rcases c4 with ⟨z, -⟩ | ⟨-, z⟩
            · rw [e0] at z; cases z
            · exact Nat.eq_of_beq_eq_true z
          obtain ⟨x, k1, k2⟩ := sameN_ok hR c2 g1
          obtain ⟨y, l1, l2⟩ := sameN_ok hR c3 g2
          rw [c5] at l2
          exact ⟨q, hρ _ x _ k1 k2, hρ _ y _ l1 l2⟩
        · omega
        · omega
        · omega
        · omega
        · trivial
      · intro p hp
        have := List.all_eq_true.mp b4 p hp
        split at this
        · rename_i s hs
          obtain ⟨v, g1, g2⟩ := hA _ (lookup_mem hs)
          obtain ⟨r0, hr0⟩ := hR.2.2.2.2.2
          obtain ⟨x, k1, k2⟩ := sameN_ok hR this (by rw [hr0]; exact at_app _ g1)
          exact ⟨v, hρ _ x v k1 k2, g2⟩
        · cases this
      · intro m hm
        rw [hm] at b5
        simp only at b5
        obtain ⟨-, hlt⟩ := lexA_ok hR b5
        obtain ⟨r0, hr0⟩ := hR.2.2.2.2.2
        have e1 : encM ρ0 m = encM (ρ ++ r) m := enc_eq (fun x hx => by rw [hr0]; exact mvl_pre (hmA m hm x hx))
        have e2 : encM (ρ ++ r) (mapM θ C.2.2.2.1) = encM (θ.map (fun x => ((ρ ++ r)[x]?).getD .null)) C.2.2.2.1 := by
          have hwf2 : ∀ m ∈ C.2.2.2.1, m.2.1 = 0 ∨ m.2.2 < C.1.length := fun m hm => by
            have := List.all_eq_true.mp hwf m hm
            simp only [Bool.or_eq_true, decide_eq_true_eq] at this
            exact this.imp id Nat.le_of_ble_eq_true
          generalize C.2.2.2.1 = ml at hwf2
          induction ml with
          | nil => rfl
          | cons m ml ih =>
            have ih := ih (fun m hm => hwf2 m (List.mem_cons_of_mem _ hm))
            unfold mapM at ih ⊢
            simp only [List.map_cons, encM, List.length_map]
            rw [ih]
            congr 3
            unfold mvl
            rcases hwf2 m List.mem_cons_self with e | e
            · simp only [e, Int.zero_mul]
            · simp only
              by_cases e0 : m.2.1 = 0
              · simp only [e0, Int.zero_mul]
              · rw [if_neg e0]
                have hlt : m.2.2 < θ.length := by rw [hlen]; exact e
                have hx : θ[m.2.2]? = some θ[m.2.2] := List.getElem?_eq_getElem hlt
                obtain ⟨v, hv⟩ := hθ _ (List.mem_of_getElem? hx)
                rw [hρ _ _ v hx hv, hx]
                simp only [Option.getD_some, hv]
        rw [e1, ← e2]
        exact hlt
    · cases h
  · cases h
theorem exA_ok {xw : XW} {xl : XL} (hw : HookW TY I xw) (hlk : HookL TY I xl) {xr : AS → Bool} {X : Sg → Prop} (hX : ∀ ρ a ls st σ, Rel ρ0 ρ a ls st σ → xr a = true → X σ) {cuts : List (Nat × CUT)} {argS : List (Nat × Nat)} {mA : Option (List (Int × Int × Nat))} (hM : P[mi]? = some M0) (hE : ∀ p ∈ env, SpecOK P TY I p.1 p.2) (hst : stab I dep) (hA : argOK ρ0 av argS) (hwf : ∀ q ∈ cuts, wfC q.2 = true) (hmA : ∀ m, mA = some m → ∀ x ∈ m, x.2.1 = 0 ∨ x.2.2 < ρ0.length)
    (hC : ∀ q ∈ cuts, ∀ ρ' ls' σ', Rel ρ' ρ' (cutA q.2) ls' [] σ' → Glo TY I (spMods sp) σ0 σ' → argOK ρ' av q.2.2.2.2.2 → ρ'.length = q.2.1.length → (∀ m, mA = some m → encM ρ' q.2.2.2.2.1 < encM ρ0 m) → Rn P (spD sp) mi q.1 ls' [] σ' (fun v σ9 => spQ TY I sp av σ0 v σ9 ∧ X σ9)) :
    ∀ (n pc : Nat) (a : AS), exA TY dep env sp M0.2.2.2.2 M0.2.2.1 M0.2.2.2.1 xw xl xr cuts argS mA n pc a = true → ∀ (ρ : List Value) (ls : Lcl) (st : List Value) (σ : Sg), Rel ρ0 ρ a ls st σ → Glo TY I (spMods sp) σ0 σ → Rn P (spD sp) mi pc ls st σ (fun v σ9 => spQ TY I sp av σ0 v σ9 ∧ X σ9) := by
  intro n
  induction n with
  | zero => intro pc a h; cases h
  | succ n ih =>
    intro pc a h ρ ls st σ hr hG
    simp only [exA, fN_eq, frcA_eq] at h
    split at h
    · rename_i q0 qs hc
      obtain ⟨q, hq, hb⟩ := List.any_eq_true.mp h
      rw [← hc] at hq
      obtain ⟨hmem, hpc⟩ := List.mem_filter.mp hq
      have hpc := Nat.eq_of_beq_eq_true hpc
      obtain ⟨rfl, ρ', g1, g2, g3, g4⟩ := arrive_ok hr hG.1 hA (hwf _ hmem) hmA hb
      rw [← hpc]
      exact hC q hmem ρ' ls σ g1 hG g2 g3 g4
    · exact stepA_ok hM hE hst hA hw hlk hX h hr hG (fun pc' a' hk ρ' ls' st' σ' hr' hG' => ih pc' a' hk ρ' ls' st' σ' hr' hG')
theorem cut_ok {xw : XW} {xl : XL} (hw : HookW TY I xw) (hlk : HookL TY I xl) {xc : AS → Bool} {X : Sg → Prop} (hX : ∀ ρ0 ρ a ls st σ, Rel ρ0 ρ a ls st σ → xc a = true → X σ) {cuts : List (Nat × CUT)} {fuel : Nat} (hM : P[mi]? = some M0) (hE : ∀ p ∈ env, SpecOK P TY I p.1 p.2) (hst : stab I dep) (hall : cuts.all (fun q => wfC q.2 && stepA TY dep env sp M0.2.2.2.2 M0.2.2.1 M0.2.2.2.1 xw xl xc q.2.2.2.2.2 (exA TY dep env sp M0.2.2.2.2 M0.2.2.1 M0.2.2.2.1 xw xl xc cuts q.2.2.2.2.2 (some q.2.2.2.2.1) fuel) q.1 (cutA q.2)) = true) :
    ∀ (N : Nat), ∀ q ∈ cuts, ∀ ρ0 ls σ, Rel ρ0 ρ0 (cutA q.2) ls [] σ → Glo TY I (spMods sp) σ0 σ → argOK ρ0 av q.2.2.2.2.2 → ρ0.length = q.2.1.length → encM ρ0 q.2.2.2.2.1 = N → Rn P (spD sp) mi q.1 ls [] σ (fun v σ9 => spQ TY I sp av σ0 v σ9 ∧ X σ9) := by
  have hwf : ∀ q ∈ cuts, wfC q.2 = true := fun q hq => by
    have := List.all_eq_true.mp hall q hq
    rw [Bool.and_eq_true] at this
    exact this.1
  intro N
  induction N using Nat.strongRecOn with
  | ind N ih =>
    intro q hq ρ0 ls σ hr hG hA hl he
    have h1 := List.all_eq_true.mp hall q hq
    rw [Bool.and_eq_true] at h1
    have hmA : ∀ m, some q.2.2.2.2.1 = some m → ∀ x ∈ m, x.2.1 = 0 ∨ x.2.2 < ρ0.length := fun m hm x hx => by
      cases hm
      have := List.all_eq_true.mp h1.1 x hx
      simp only [Bool.or_eq_true, decide_eq_true_eq] at this
      rw [hl]
      exact this.imp id Nat.le_of_ble_eq_true
    refine stepA_ok hM hE hst hA hw hlk (hX ρ0) h1.2 hr hG (fun pc' a' hk ρ' ls' st' σ' hr' hG' => ?_)
    refine exA_ok hw hlk (hX ρ0) hM hE hst hA hwf hmA (fun q2 hq2 ρ2 ls2 σ2 hr2 hG2 hA2 hl2 hlt => ?_) fuel pc' a' hk ρ' ls' st' σ' hr' hG'
    have := hlt _ rfl
    rw [he] at this
    exact ih _ this q2 hq2 ρ2 ls2 σ2 hr2 hG2 hA2 hl2 rfl
end AbsF
