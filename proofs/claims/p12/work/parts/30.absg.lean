/-! ranges: a method that passes the test keeps its promise -/
section AbsG
variable {P : List MI} {TY : List (List SEG)} {I : Sg → Prop} {dep : List (Nat × Nat × Nat)} {env : List (Nat × SP)} {sp : SP} {mi : Nat} {M0 : MI}
theorem entS_at : ∀ {ts : List (Nat × Int × Int)} {n i : Nat} {si : SI}, (entS n ts)[i]? = some si → ∃ t, ts[i]? = some t ∧ si = (t.1, t.2.1, t.2.2, n + i, 0, [])
  | [], _, _, _, h => by cases h
  | s :: ss, n, 0, si, h => by cases h; exact ⟨s, rfl, rfl⟩
  | s :: ss, n, i + 1, si, h => by
    obtain ⟨s', h1, h2⟩ := entS_at (ts := ss) (n := n + 1) (i := i) h
    exact ⟨s', h1, by rw [h2]; congr 4; omega⟩
theorem entS_len : ∀ (ts : List (Nat × Int × Int)) (n : Nat), (entS n ts).length = ts.length
  | [], _ => rfl
  | s :: ss, n => by simp [entS, entS_len ss (n + 1)]
theorem avOK_cat {t : Nat × Int × Int} {v : Value} (h : avOK t v) : v.category = if Nat.beq t.1 3 then 2 else 1 := by
  obtain ⟨t0, t1, t2⟩ := t
  unfold avOK at h
  simp only at h ⊢
  split at h
  · obtain ⟨w, rfl, -⟩ := h; rfl
  · obtain ⟨w, rfl, -⟩ := h; rfl
  · obtain ⟨w, rfl⟩ := h; rfl
  · exact False.elim h
theorem avs_tl {t : Nat × Int × Int} {ts : List (Nat × Int × Int)} {v : Value} {av : List Value} (h : avsOK (t :: ts) (v :: av)) : avOK t v ∧ avsOK ts av := ⟨h.2 0 t v rfl rfl, by have := h.1; simp at this; exact this, fun j t' v' h1 h2 => h.2 (j + 1) t' v' h1 h2⟩
theorem slots_ok : ∀ {ts : List (Nat × Int × Int)} {av : List Value}, avsOK ts av → (lg_sl av).length = slots ts
  | [], [], _ => rfl
  | [], _ :: _, h => by cases h.1
  | _ :: _, [], h => by cases h.1
  | t :: ts, v :: av, h => by
    obtain ⟨h1, h2⟩ := avs_tl h
    have ih := slots_ok h2
    have hc := avOK_cat h1
    unfold slots at ih ⊢
    simp only [List.map_cons, List.sum_cons]
    rw [← ih, ← hc]
    cases v <;> simp [lg_sl, Value.category] <;> omega
theorem lv_lk : ∀ {ts : List (Nat × Int × Int)} {av : List Value} {k n : Nat} {r0 r1 : List Value}, avsOK ts av → n = r0.length → ∀ p ∈ entL k n ts, (k ≤ p.1) ∧ ∃ v, (lv_args k av).lookup p.1 = some v ∧ (r0 ++ av ++ r1)[p.2]? = some v
  | [], _, _, _, _, _, _, _, p, hp => by cases hp
  | _ :: _, [], _, _, _, _, h, _, _, _ => by cases h.1
  | t :: ts, v :: av, k, n, r0, r1, h, hn, p, hp => by
    obtain ⟨h1, h2⟩ := avs_tl h
    simp only [entL] at hp
    have hc := avOK_cat h1
    rcases List.mem_cons.mp hp with rfl | hp
    · refine ⟨Nat.le_refl _, v, by simp [lv_args], ?_⟩
      simp only
      rw [hn, List.append_assoc, List.getElem?_append_right (Nat.le_refl _)]
      simp
    · have hk : (if Nat.beq t.1 3 then k + 2 else k + 1) = if v.category = 2 then k + 2 else k + 1 := by
        rw [hc]
        split <;> rfl
      rw [hk] at hp
      obtain ⟨g0, w, g1, g2⟩ := lv_lk (r0 := r0 ++ [v]) (r1 := r1) h2 (by simp [hn]) p hp
      have hlt : k < p.1 := by split at g0 <;> omega
      refine ⟨by omega, w, ?_, ?_⟩
      · simp only [lv_args]
        rw [List.lookup_cons]
        have : (p.1 == k) = false := by simp; omega
        rw [this]
        exact g1
      · rw [List.append_assoc r0 [v] av] at g2
        exact g2
theorem entP_len : ∀ (ps : List (Nat × Nat × Int × Int)) (n : Nat), (entP n ps).1.length = ps.length
  | [], _ => rfl
  | p :: ps, n => by simp [entP, entP_len ps (n + 1)]
/-- the fields that are told of at the entry -/
theorem entP_ok {av : List Value} {σ : Sg} : ∀ {ps : List (Nat × Nat × Int × Int)} {n : Nat} {r0 : List Value}, (∀ p ∈ ps, fdOK av σ p) → n = r0.length → (∃ r, r0 = av ++ r) → ∃ r : List Value, r.length = ps.length ∧ (∀ (i : Nat) si, (entP n ps).1[i]? = some si → ∃ v, r[i]? = some v ∧ okS (r0 ++ r) si v) ∧ ∀ e ∈ (entP n ps).2, memOK (r0 ++ r) σ e
  | [], _, _, _, _, _ => ⟨[], rfl, fun i si h => by (cases h), fun e he => by cases he⟩
  | p :: ps, n, r0, hf, hn, hp => by
    obtain ⟨q, g1, g2, g3⟩ := hf p List.mem_cons_self
    obtain ⟨rp, hrp⟩ := hp
    obtain ⟨r, k1, k2, k3⟩ := entP_ok (ps := ps) (n := n + 1) (r0 := r0 ++ [.int (σ.1 q p.2.1)]) (fun p hp => hf p (List.mem_cons_of_mem _ hp)) (by simp [hn]) ⟨rp ++ [.int (σ.1 q p.2.1)], by rw [hrp, List.append_assoc]⟩
    rw [List.append_assoc] at k2 k3
    have hat : (r0 ++ ([.int (σ.1 q p.2.1)] ++ r))[n]? = some (.int (σ.1 q p.2.1)) := by
      rw [hn, List.getElem?_append_right (Nat.le_refl _)]
      simp
    refine ⟨.int (σ.1 q p.2.1) :: r, by simp [k1], ?_, ?_⟩
    · intro i si hs
      cases i with
      | zero =>
        cases hs
        exact ⟨_, rfl, okS_av (t := (0, p.2.2.1, p.2.2.2)) ⟨_, rfl, g2, g3⟩ hat⟩
      | succ i => exact k2 i si hs
    · intro e he
      rcases List.mem_cons.mp he with rfl | he
      · refine ⟨q, ?_, hat⟩
        show (r0 ++ ([.int (σ.1 q p.2.1)] ++ r))[p.1]? = _
        rw [hrp, List.append_assoc]
        exact at_app _ g1
      · exact k3 e he
theorem entP_mem : ∀ {ps : List (Nat × Nat × Int × Int)} {n i : Nat} {p : Nat × Nat × Int × Int}, ps[i]? = some p → (0, p.1, p.2.1, n + i) ∈ (entP n ps).2
  | [], _, _, _, h => by cases h
  | p0 :: ps, n, 0, p, h => by cases h; exact List.mem_cons_self
  | p0 :: ps, n, i + 1, p, h => by
    have := entP_mem (ps := ps) (n := n + 1) (i := i) (p := p) h
    have e : n + 1 + i = n + (i + 1) := by omega
    rw [e] at this
    exact List.mem_cons_of_mem _ this
/-- a method that passes the test keeps its promise -/
theorem chkX_ok {xw : XW} {xl : XL} (hw : HookW TY I xw) (hl : HookL TY I xl) {xr xc : AS → Bool} {X : List Value → Sg → Sg → Prop} {cuts : List (Nat × CUT)} {fuel : Nat} (hM : P[mi]? = some M0) (hE : ∀ p ∈ env, SpecOK P TY I p.1 p.2) (hst : stab I dep) (hX : ∀ av σ r, r.length = (spPre sp).length → (∀ e ∈ (entA sp).2.2.2, memOK (av ++ r) σ e) → ∀ ρ a ls st σ1, Rel (av ++ r) ρ a ls st σ1 → xr a = true → X av σ σ1) (hXc : ∀ av σ ρ0 ρ a ls st σ1, Rel ρ0 ρ a ls st σ1 → xc a = true → X av σ σ1) (h : chkX xw xl xr xc TY dep env sp M0 cuts fuel = true) : ∀ av σ, typed TY σ → I σ → avsOK (spArgs sp) av → (∀ p ∈ spPre sp, fdOK av σ p) → (∀ p ∈ spPhi sp, phOK av σ p) → Ok P (spD sp) mi av σ (fun v σ9 => spQ TY I sp av σ v σ9 ∧ X av σ σ9) := by
  intro av σ ht hI hav hpre hph
  unfold chkX at h
  simp only [Bool.and_eq_true] at h
  obtain ⟨h1, h2, h3, h4⟩ := h
  refine ⟨M0, hM, by rw [slots_ok hav]; exact Nat.le_of_ble_eq_true h1, ?_⟩
  have hG : Glo TY I (spMods sp) σ σ := ⟨ht, hI, fun _ _ _ _ _ => rfl⟩
  have hlen : av.length = (spArgs sp).length := hav.1
  obtain ⟨r, k1, k2, k3⟩ := entP_ok (av := av) (σ := σ) (ps := spPre sp) (n := (spArgs sp).length) (r0 := av) hpre hlen.symm ⟨[], by simp⟩
  have hR : Rel (av ++ r) (av ++ r) (entA sp) (lv_args 0 av) [] σ := by
    refine ⟨?_, ?_, ?_, rfl, ?_, [], by simp⟩
    rotate_left 3
    · intro e he
      rcases List.mem_append.mp he with he | he
      · obtain ⟨p, hp, rfl⟩ := List.mem_map.mp he
        have hph1 := hph p hp
        unfold phOK at hph1
        cases hb : Nat.blt p.2 4 with
        | true =>
          rw [hb] at hph1
          have he : entE sp p = (6, p.1, p.2, 0) := by unfold entE; rw [hb]
          rw [he]
          obtain ⟨w, g1, g2⟩ := hph1
          exact ⟨w, at_app r g1, g2⟩
        | false =>
          rw [hb] at hph1
          obtain ⟨w, q, g1, g2, g3⟩ := hph1
          cases hu : (spPre sp)[(spPre sp).findIdx (fun u => Nat.beq u.1 ((p.2 - 4) / 1000) && Nat.beq u.2.1 ((p.2 - 4) % 1000))]? with
          | none =>
            have he : entE sp p = (9, 0, 0, 0) := by unfold entE; rw [hb]; simp only [hu]
            rw [he]; trivial
          | some u =>
            by_cases hc : u.1 = (p.2 - 4) / 1000 ∧ u.2.1 = (p.2 - 4) % 1000
            · have he : entE sp p = (3, (spArgs sp).length + (spPre sp).findIdx (fun u => Nat.beq u.1 ((p.2 - 4) / 1000) && Nat.beq u.2.1 ((p.2 - 4) % 1000)), p.1, 0) := by unfold entE; rw [hb]; simp only [hu]; rw [if_pos hc]
              rw [he]
              have hm := k3 _ (entP_mem (n := (spArgs sp).length) hu)
              obtain ⟨q2, m1, m2⟩ := hm
              simp only at m1 m2
              rw [hc.1, at_app r g2] at m1
              cases m1
              rw [hc.2] at m2
              exact ⟨_, w, m2, at_app r g1, by show w.toInt + ((0 : Nat) : Int) ≤ _; omega⟩
            · have he : entE sp p = (9, 0, 0, 0) := by unfold entE; rw [hb]; simp only [hu]; rw [if_neg hc]
              rw [he]; trivial
      · exact k3 e he
    · simp only [entA, List.length_append, entS_len, entP_len]
      omega
    · intro s si hs
      simp only [entA] at hs
      by_cases hlt : s < (spArgs sp).length
      · rw [List.getElem?_append_left (by rw [entS_len]; exact hlt)] at hs
        obtain ⟨t, g1, rfl⟩ := entS_at hs
        have hv : av[s]? = some av[s] := List.getElem?_eq_getElem (by omega)
        refine ⟨_, at_app r hv, ?_⟩
        rw [Nat.zero_add]
        exact okS_av (hav.2 s t _ g1 hv) (at_app r hv)
      · rw [List.getElem?_append_right (by rw [entS_len]; omega), entS_len] at hs
        obtain ⟨v, g1, g2⟩ := k2 _ si hs
        refine ⟨v, ?_, g2⟩
        rw [List.getElem?_append_right (by omega), hlen]
        exact g1
    · intro p hp
      have hp2 : p ∈ entL 0 0 (spArgs sp) := hp
      obtain ⟨-, v, g1, g2⟩ := lv_lk (r0 := []) (r1 := r) hav rfl p hp2
      exact ⟨v, g1, by simpa using g2⟩
  have hA : argOK (av ++ r) av ((List.range (spArgs sp).length).map (fun j => (j, j))) := by
    intro p hp
    obtain ⟨j, hj, rfl⟩ := List.mem_map.mp hp
    have hlt := List.mem_range.mp hj
    have hv : av[j]? = some av[j] := List.getElem?_eq_getElem (by omega)
    exact ⟨_, at_app r hv, hv⟩
  have hwf : ∀ q ∈ cuts, wfC q.2 = true := fun q hq => by
    have := List.all_eq_true.mp h4 q hq
    rw [Bool.and_eq_true] at this
    exact this.1
  exact exA_ok hw hl (X := X av σ) (hX av σ r k1 hR.2.2.2.2.1) hM hE hst hA hwf (fun m hm => by cases hm) (fun q hq ρ' ls' σ' hr' hG' hA' hl' _ => cut_ok hw hl (X := X av σ) (hXc av σ) hM hE hst h4 _ q hq ρ' ls' σ' hr' hG' hA' hl' rfl) fuel 0 (entA sp) h3 (av ++ r) _ [] σ hR hG
theorem chkM_ok {cuts : List (Nat × CUT)} {fuel : Nat} (hM : P[mi]? = some M0) (hmi : mi < 1000) (hE : ∀ p ∈ env, SpecOK P TY I p.1 p.2) (hst : stab I dep) (h : chkM TY dep env sp M0 cuts fuel = true) : SpecOK P TY I mi sp :=
  ⟨hmi, fun av σ ht hI hav hpre hph => (chkX_ok noW_ok noL_ok (X := fun _ _ _ => True) hM hE hst (fun _ _ _ _ _ _ _ _ _ _ _ _ => trivial) (fun _ _ _ _ _ _ _ _ _ _ => trivial) h av σ ht hI hav hpre hph).mono (fun v σ' hq => hq.1)⟩
/-- the field k of the first value, told of first at the entry, is as it was -/
def keepR (n k : Nat) (a : AS) : Bool := match fdM a.2.2.2 (mF 0 k) with
  | some v => eqS a.1 v n
  | none => false
/-- a method with no cut that leaves a field of the first value as it found it; the field's kind has one cell -/
theorem keep_ok {cuts : List (Nat × CUT)} {fuel k κ : Nat} {sp' : SP} {lo hi : Int} {ts : List (Nat × Int × Int)} {ps : List (Nat × Nat × Int × Int)} (hM : P[mi]? = some M0) (hmi : mi < 1000) (hE : ∀ p ∈ env, SpecOK P TY I p.1 p.2) (hst : stab I dep) (h : chkX noW noL (keepR (spArgs sp).length k) (fun _ => false) TY dep env sp M0 cuts fuel = true) (ha : spArgs sp = (1, (κ : Int), 0) :: ts) (hp : spPre sp = (0, k, lo, hi) :: ps) (hphi : spPhi sp = [] ∨ True) (hone : ∀ q q', kdn q = some κ → kdn q' = some κ → q = q')
    (hs : spArgs sp' = spArgs sp ∧ spPre sp' = spPre sp ∧ spRes sp' = spRes sp ∧ spImp sp' = spImp sp ∧ spPost sp' = spPost sp ∧ spD sp' = spD sp ∧ spBt sp' = spBt sp ∧ spPhi sp' = spPhi sp) (hm : ∀ κ' k', inM (spMods sp') κ' k' = false → inM (spMods sp) κ' k' = false ∨ (κ' = κ ∧ k' = k)) : SpecOK P TY I mi sp' := by
  refine ⟨hmi, fun av σ ht hI hav hpre hph => ?_⟩
  obtain ⟨s1, s2, s3, s4, s5, s6, s7, s8⟩ := hs
  rw [s1] at hav
  rw [s2] at hpre
  rw [s8] at hph
  have hav0 := hav
  rw [ha] at hav
  cases av with
  | nil => cases hav.1
  | cons v av =>
    obtain ⟨h0, -⟩ := avs_tl hav
    obtain ⟨q, rfl, hq⟩ := h0
    simp only [Int.toNat_natCast] at hq
    have hr := chkX_ok noW_ok noL_ok (X := fun av σ σ1 => ∀ q, av[0]? = some (.ref q) → σ1.1 q k = σ.1 q k) hM hE hst ?_ (fun _ _ _ _ _ _ _ _ _ hf => by cases hf) h (.ref q :: av) σ ht hI hav0 hpre hph
    · rw [s6]
      refine hr.mono (fun v σ' hq9 => ?_)
      obtain ⟨⟨⟨g1, g2, g3⟩, g4, g5, g6, g7⟩, g8⟩ := hq9
      refine ⟨⟨g1, g2, ?_⟩, by rw [s3]; exact g4, by rw [s4, s7]; exact g5, by rw [s5]; exact g6, by rw [s7]; exact g7⟩
      intro q' κ' k' hq' hm'
      rcases hm κ' k' hm' with e | ⟨rfl, rfl⟩
      · exact g3 q' κ' k' hq' e
      · rw [hone q' q hq' hq]; exact g8 q rfl
    · intro av1 σ1 r hl hmem ρ a ls st σ2 hR hk q1 hq1
      obtain ⟨S, L, K, M⟩ := a
      unfold keepR at hk
      split at hk
      · rename_i v hv
        obtain ⟨e, he, hpe, rfl⟩ := fdM_some hv
        unfold mF at hpe
        simp only [Bool.and_eq_true] at hpe
        have hok := hR.2.2.2.2.1 e he
        unfold memOK at hok
        rw [Nat.eq_of_beq_eq_true hpe.1] at hok
        obtain ⟨q2, k1, k2⟩ := hok
        rw [Nat.eq_of_beq_eq_true hpe.2.1] at k1
        rw [Nat.eq_of_beq_eq_true hpe.2.2] at k2
        have hm0 := hmem (0, 0, k, (spArgs sp).length) (List.mem_append_right _ (by rw [hp]; exact List.mem_cons_self))
        obtain ⟨q3, k3, k4⟩ := hm0
        simp only at k3 k4
        obtain ⟨rr, hrr⟩ := hR.2.2.2.2.2
        have h3 := at_app r hq1
        rw [h3] at k3
        cases k3
        have h4 : ρ[0]? = some (.ref q1) := by rw [hrr]; exact at_app rr h3
        rw [h4] at k1
        cases k1
        have h5 : ρ[(spArgs sp).length]? = some (.int (σ1.1 q1 k)) := by rw [hrr]; exact at_app rr k4
        exact eqS_ok hR hk k2 h5
      · cases hk
/-- a method that passes the test with hooks -/
theorem chkH_ok {xw : XW} {xl : XL} (hw : HookW TY I xw) (hl : HookL TY I xl) {cuts : List (Nat × CUT)} {fuel : Nat} (hM : P[mi]? = some M0) (hmi : mi < 1000) (hE : ∀ p ∈ env, SpecOK P TY I p.1 p.2) (hst : stab I dep) (h : chkX xw xl (fun _ => true) (fun _ => true) TY dep env sp M0 cuts fuel = true) : SpecOK P TY I mi sp :=
  ⟨hmi, fun av σ ht hI hav hpre hph => (chkX_ok hw hl (X := fun _ _ _ => True) hM hE hst (fun _ _ _ _ _ _ _ _ _ _ _ _ => trivial) (fun _ _ _ _ _ _ _ _ _ _ => trivial) h av σ ht hI hav hpre hph).mono (fun v σ' hq => hq.1)⟩
end AbsG
