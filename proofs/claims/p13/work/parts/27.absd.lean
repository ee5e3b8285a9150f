/-! ranges along calls and returns: sound -/
section AbsD
variable {P : List MI} {TY : List (List SEG)} {I : Sg → Prop} {ms dep : List (Nat × Nat × Nat)} {σ0 σ : Sg} {ρ0 ρ : List Value} {S : List SI} {L : List (Nat × Nat)} {K : List Nat} {M : List ME} {a a' : AS} {ls : Lcl} {st : List Value}
theorem mp_at : ∀ {as : List Nat} {av : List Value} {j r : Nat}, as.map (fun s => ρ[s]?) = av.map some → as[j]? = some r → ∃ v, ρ[r]? = some v ∧ av[j]? = some v
  | [], _, _, _, _, h => by cases h
  | s :: as, [], _, _, h, _ => by cases h
  | s :: as, v :: av, 0, r, h, hj => by
    have : s = r := Option.some.inj hj
    subst this
    injection h with h1 h2
    exact ⟨v, h1, rfl⟩
  | s :: as, v :: av, j + 1, r, h, hj => by
    injection h with h1 h2
    exact mp_at (as := as) (av := av) (j := j) h2 hj
theorem mp_av : ∀ {as : List Nat} {av : List Value} {j : Nat} {v : Value}, as.map (fun s => ρ[s]?) = av.map some → av[j]? = some v → ∃ r, as[j]? = some r ∧ ρ[r]? = some v
  | [], [], _, _, _, h => by cases h
  | [], _ :: _, _, _, h, _ => by cases h
  | s :: as, [], _, _, h, _ => by cases h
  | s :: as, w :: av, 0, v, h, hj => by
    have : w = v := Option.some.inj hj
    subst this
    injection h with h1 h2
    exact ⟨s, rfl, h1⟩
  | s :: as, w :: av, j + 1, v, h, hj => by
    injection h with h1 h2
    exact mp_av (as := as) (av := av) (j := j) h2 hj
theorem arA_ok (h : Rel ρ0 ρ (S, L, K, M) ls st σ) {s : Nat} {t : Nat × Int × Int} {v : Value} (ha : arA S s t = true) (hv : ρ[s]? = some v) : avOK t v := by
  obtain ⟨t0, t1, t2⟩ := t
  unfold arA at ha
  unfold avOK
  simp only at ha ⊢
  split at ha
  · rw [Bool.and_eq_true, decide_eq_true_iff] at ha
    obtain ⟨w, f1, f2, f3, -⟩ := h.int (tag_eq ha.1)
    rw [hv] at f1; cases f1
    exact ⟨w, rfl, by omega, by omega⟩
  · rw [Bool.and_eq_true] at ha
    obtain ⟨q, rfl⟩ := h.isA hv (tag_eq ha.1)
    exact ⟨q, rfl, by rw [h.kind hv, Nat.eq_of_beq_eq_true ha.2]⟩
  · obtain ⟨w, rfl⟩ := h.isJ hv (tag_eq ha)
    exact ⟨w, rfl⟩
  · cases ha
theorem arsA_ok (h : Rel ρ0 ρ (S, L, K, M) ls st σ) : ∀ {as : List Nat} {ts : List (Nat × Int × Int)} {av : List Value}, arsA S as ts = true → as.map (fun s => ρ[s]?) = av.map some → avsOK ts av
  | [], [], [], _, _ => ⟨rfl, fun j t v h => by cases h⟩
  | [], [], _ :: _, _, h => by cases h
  | [], _ :: _, _, h, _ => by cases h
  | _ :: _, [], _, h, _ => by cases h
  | s :: as, t :: ts, [], _, h => by cases h
  | s :: as, t :: ts, v :: av, ha, hm => by
    simp only [arsA, Bool.and_eq_true] at ha
    injection hm with h1 h2
    obtain ⟨g1, g2⟩ := arsA_ok h (as := as) (ts := ts) (av := av) ha.2 h2
    refine ⟨by simp [g1], ?_⟩
    intro j t' v' hj hv
    cases j with
    | zero =>
      cases hj
      cases hv
      exact arA_ok h ha.1 h1
    | succ j => exact g2 j t' v' hj hv
theorem fdA_ok (h : Rel ρ0 ρ (S, L, K, M) ls st σ) (ht : typed TY σ) {as : List Nat} {av : List Value} {p : Nat × Nat × Int × Int} (hm : as.map (fun s => ρ[s]?) = av.map some) (hf : fdA TY S M as p = true) : fdOK av σ p := by
  unfold fdA at hf
  split at hf
  · rename_i r hr
    rw [Bool.and_eq_true] at hf
    obtain ⟨v, g1, g2⟩ := mp_at hm hr
    obtain ⟨q, rfl⟩ := h.isA g1 (tag_eq hf.1)
    refine ⟨q, g2, ?_⟩
    have hf2 := hf.2
    split at hf2
    · rename_i v hv
      rw [Bool.and_eq_true, decide_eq_true_iff] at hf2
      obtain ⟨e, he, hp, rfl⟩ := fdM_some hv
      unfold mF at hp
      simp only [Bool.and_eq_true] at hp
      have hok := h.2.2.2.2.1 e he
      unfold memOK at hok
      rw [Nat.eq_of_beq_eq_true hp.1] at hok
      obtain ⟨q', k1, k2⟩ := hok
      rw [Nat.eq_of_beq_eq_true hp.2.1, g1] at k1
      cases k1
      rw [Nat.eq_of_beq_eq_true hp.2.2] at k2
      obtain ⟨w, f1, f2, f3, -⟩ := h.int (tag_eq hf2.1)
      rw [k2] at f1
      cases f1
      omega
    · have hf2 := of_decide_eq_true hf2
      have := ldRg_ok ht (h.kind g1) (Nat.le_refl p.2.1) (Nat.le_refl p.2.1)
      omega
  · cases hf
theorem phA_ok (h : Rel ρ0 ρ (S, L, K, M) ls st σ) {as : List Nat} {av : List Value} {p : Nat × Nat} (hm : as.map (fun s => ρ[s]?) = av.map some) (hf : phA S M as p = true) : phOK av σ p := by
  unfold phA at hf
  unfold phOK
  split at hf
  · split at hf
    · rename_i s hs
      rw [Bool.and_eq_true] at hf
      obtain ⟨v, g1, g2⟩ := mp_at hm hs
      obtain ⟨w, f1, f2, f3, -⟩ := h.int (tag_eq hf.1)
      rw [g1] at f1
      cases f1
      have hf2 := hf.2
      split at hf2
      · rename_i c hc
        exact ⟨w, g2, by rw [phi_ok h g1 f2 f3 hc]; exact Nat.eq_of_beq_eq_true hf2⟩
      · cases hf2
    · cases hf
  · split at hf
    · rename_i s r hs hr
      rw [Bool.and_eq_true, Bool.and_eq_true] at hf
      obtain ⟨t1, t2, hf⟩ := hf
      obtain ⟨v, g1, g2⟩ := mp_at hm hs
      obtain ⟨v2, g3, g4⟩ := mp_at hm hr
      obtain ⟨w, f1, f2, f3, -⟩ := h.int (tag_eq t1)
      rw [g1] at f1
      cases f1
      obtain ⟨q, rfl⟩ := h.isA g3 (tag_eq t2)
      refine ⟨w, q, g2, g4, ?_⟩
      split at hf
      · rename_i v9 hv9
        obtain ⟨e, he, hp, rfl⟩ := fdM_some hv9
        unfold mF at hp
        simp only [Bool.and_eq_true] at hp
        have hok := h.2.2.2.2.1 e he
        unfold memOK at hok
        rw [Nat.eq_of_beq_eq_true hp.1] at hok
        obtain ⟨q', k1, k2⟩ := hok
        rw [Nat.eq_of_beq_eq_true hp.2.1, g3] at k1
        cases k1
        rw [Nat.eq_of_beq_eq_true hp.2.2] at k2
        rw [Bool.and_eq_true, Bool.or_eq_true, Bool.or_eq_true] at hf
        rcases hf.2 with e1 | e1 | e1
        · rw [eqS_ok h e1 g1 k2]; exact Int.le_refl _
        · obtain ⟨e3, he3, hp3⟩ := List.any_eq_true.mp e1
          simp only [Bool.and_eq_true] at hp3
          have hok3 := h.2.2.2.2.1 e3 he3
          unfold memOK at hok3
          rw [Nat.eq_of_beq_eq_true hp3.1] at hok3
          obtain ⟨x, y, m1, m2, m3⟩ := hok3
          rw [Nat.eq_of_beq_eq_true hp3.2.1, k2] at m1
          rw [Nat.eq_of_beq_eq_true hp3.2.2, g1] at m2
          cases m1
          cases m2
          omega
        · have e1 := of_decide_eq_true e1
          obtain ⟨w9, n1, n2, n3, -⟩ := h.int (tag_eq hf.1)
          rw [k2] at n1
          cases n1
          omega
      · cases hf
    · cases hf
theorem frame_tr {ms' : List (Nat × Nat × Nat)} {σ1 : Sg} (h1 : frame ms σ0 σ) (h2 : frame ms' σ σ1) (hs : subM ms' ms = true) : frame ms σ0 σ1 := by
  intro q κ k hq hm
  rw [h2 q κ k hq ?_, h1 q κ k hq hm]
  unfold inM at hm ⊢
  rw [List.any_eq_false] at hm ⊢
  intro m hmm
  have := List.all_eq_true.mp hs m hmm
  obtain ⟨n, hn1, hn2⟩ := List.any_eq_true.mp this
  have hno := hm n hn1
  simp only [Bool.and_eq_true, not_and, Bool.not_eq_true] at hn2 hno ⊢
  intro e1 e2
  have e0 := Nat.eq_of_beq_eq_true e1
  have := hno (by rw [Nat.eq_of_beq_eq_true hn2.1, e0]; exact Nat.beq_refl κ) (Nat.ble_eq_true_of_le (Nat.le_trans (Nat.le_of_ble_eq_true hn2.2.1) (Nat.le_of_ble_eq_true e2)))
  cases hb : Nat.ble k m.2.2 with
  | false => rfl
  | true =>
    rw [Nat.ble_eq_true_of_le (Nat.le_trans (Nat.le_of_ble_eq_true hb) (Nat.le_of_ble_eq_true hn2.2.2))] at this
    cases this
theorem Rel.call (h : Rel ρ0 ρ (S, L, K, M) ls st σ) {ms' : List (Nat × Nat × Nat)} {σ1 : Sg} (hf : frame ms' σ σ1) : Rel ρ0 ρ (S, L, K, keepC S ms' M) ls st σ1 := by
  have hkd := fun (s q : Nat) (hv : ρ[s]? = some (.ref q)) => h.kind hv
  refine ⟨h.1, h.2.1, h.2.2.1, h.2.2.2.1, ?_, h.2.2.2.2.2⟩
  intro e he
  obtain ⟨he1, he2⟩ := List.mem_filter.mp he
  have hok := h.2.2.2.2.1 e he1
  unfold memOK at hok ⊢
  split at hok
  · rename_i e0
    obtain ⟨q', g1, g2⟩ := hok
    refine ⟨q', g1, ?_⟩
    rw [e0] at he2
    simp only [Bool.not_eq_true'] at he2
    rw [g2, hf q' _ _ (hkd _ _ g1) he2]
  · rename_i e0
    obtain ⟨q', j, g1, g2, g3⟩ := hok
    refine ⟨q', j, g1, g2, ?_⟩
    rw [e0] at he2
    simp only [Bool.not_eq_true'] at he2
    rw [g3, hf q' _ _ (hkd _ _ g1) ?_]
    unfold inM
    rw [List.any_eq_false] at he2 ⊢
    intro m hm
    have := he2 m hm
    simp only [Bool.not_eq_true] at this
    simp only [this, Bool.false_and]
    decide
  · exact hok
  · exact hok
  · exact hok
  · exact hok
  · exact hok
  · trivial
theorem mp_app {as : List Nat} {av : List Value} (r : List Value) (hm : as.map (fun s => ρ[s]?) = av.map some) : as.map (fun s => (ρ ++ r)[s]?) = av.map some := by
  rw [← hm]
  apply List.map_congr_left
  intro s hs
  have : ρ[s]? ∈ av.map some := by rw [← hm]; exact List.mem_map.mpr ⟨s, hs, rfl⟩
  obtain ⟨w, -, hw⟩ := List.mem_map.mp this
  rw [at_app _ hw.symm, ← hw]
theorem postA_ok {as : List Nat} {av : List Value} : ∀ {ps : List (Nat × Nat × Int × Int)} {S S1 : List SI} {M M1 : List ME} {ρ : List Value}, Rel ρ0 ρ (S, L, K, M) ls st σ → as.map (fun s => ρ[s]?) = av.map some → (∀ p ∈ ps, fdOK av σ p) → postA as ps S M = some (S1, M1) → ∃ r, Rel ρ0 (ρ ++ r) (S1, L, K, M1) ls st σ
  | [], S, S1, M, M1, ρ, h, _, _, hp => by
    cases hp
    exact ⟨[], by rw [List.append_nil]; exact h⟩
  | p :: ps, S, S1, M, M1, ρ, h, hm, hf, hp => by
    simp only [postA] at hp
    split at hp
    · rename_i r hr
      obtain ⟨q, g1, g2, g3⟩ := hf p List.mem_cons_self
      obtain ⟨v, k1, k2⟩ := mp_at hm hr
      rw [g1] at k2
      cases k2
      have hg := h.grow (v := .int (σ.1 q p.2.1)) (okS_new h.1 g2 g3)
      obtain ⟨r2, hr2⟩ := postA_ok (ps := ps) (memAdd hg.1 (e := (0, r, p.2.1, S.length)) ⟨q, at_app _ k1, hg.2⟩) (mp_app _ hm) (fun p hp => hf p (List.mem_cons_of_mem _ hp)) hp
      exact ⟨_, by rw [List.append_assoc] at hr2; exact hr2⟩
    · cases hp
theorem behA_ok {d mj : Nat} {env : List (Nat × SP)} {as : List Nat} {av : List Value} (hE : ∀ p ∈ env, SpecOK P TY I p.1 p.2) (h : Rel ρ0 ρ (S, L, K, M) ls st σ) (hG : Glo TY I ms σ0 σ) (hm : as.map (fun s => ρ[s]?) = av.map some) (hb : behA TY ms d env mj as S L K M = some a') : ∃ e Qc, e < d ∧ mj < 1000 ∧ Ok P e mj av σ Qc ∧ ∀ v σ', Qc v σ' → (∃ ρ', Rel ρ0 ρ' a' ls (v.toList ++ st) σ') ∧ Glo TY I ms σ0 σ' := by
  unfold behA at hb
  split at hb
  · cases hb
  · rename_i p hp
    have hmem := List.mem_of_find?_eq_some hp
    have hc := List.find?_some hp
    simp only [Bool.and_eq_true] at hc
    obtain ⟨c0, c1, c2, c2p, c3, c4⟩ := hc
    have hmj := Nat.eq_of_beq_eq_true c0
    obtain ⟨hlt, hS⟩ := hE p hmem
    rw [hmj] at hS hlt
    have hok := hS av σ hG.1 hG.2.1 (arsA_ok h c1 hm) (fun q hq => fdA_ok h hG.1 hm (List.all_eq_true.mp c2 q hq)) (fun q hq => phA_ok h hm (List.all_eq_true.mp c2p q hq))
    refine ⟨spD p.2, _, Nat.le_of_ble_eq_true c3, hlt, hok, ?_⟩
    intro v σ' hQ
    obtain ⟨⟨q1, q2, q3⟩, q4, q5, q6, q7⟩ := hQ
    refine ⟨?_, q1, q2, frame_tr hG.2.2 q3 c4⟩
    split at hb
    · cases hb
    · rename_i S1 M1 hpo
      obtain ⟨r, hr1⟩ := postA_ok (h.call q3) hm q6 hpo
      split at hb
      · rename_i hres
        cases hb
        rw [hres] at q4
        cases v with
        | none => exact ⟨_, hr1⟩
        | some w => exact False.elim q4
      · rename_i t hres
        rw [hres] at q4
        cases v with
        | none => exact False.elim q4
        | some w =>
          have q4 : avOK t w := q4
          split at hb
          · rename_i ht
            have ht := Nat.eq_of_beq_eq_true ht
            cases hb
            unfold avOK at q4
            simp only [ht] at q4
            obtain ⟨x, rfl, k1, k2⟩ := q4
            have hpush := hr1.pushN (v := .int x) (si := (0, t.2.1, t.2.2, S1.length, 0, impA S as p.2)) ⟨x, rfl, k1, k2, ⟨x.toInt, ⟨x, by rw [← hr1.1]; simp, rfl⟩, by simp⟩, ?_⟩
            · refine ⟨ρ ++ r ++ [.int x], ?_⟩
              · split
                · rename_i h2
                  obtain ⟨w9, e9, e8⟩ := q7 (Nat.le_of_ble_eq_true h2)
                  cases e9
                  exact memAdd hpush ⟨x, by rw [← hr1.1]; simp, e8⟩
                · exact hpush
            intro hx0 u hu
            obtain ⟨i1, i2⟩ := q5 x rfl hx0
            simp only at hu
            unfold impA at hu
            rcases List.mem_append.mp hu with hu | hu
            · split at hu
              · rename_i hbt
                obtain ⟨x1, y1, z1, e1, e2, e3⟩ := i2 (Nat.eq_of_beq_eq_true hbt)
                split at hu
                · rename_i sx sy sz
                  split at hu
                  · rename_i htg
                    rw [Bool.and_eq_true, Bool.and_eq_true] at htg
                    rw [List.mem_singleton.mp hu]
                    rw [e1] at hm
                    simp only [List.map_cons, List.cons.injEq] at hm
                    obtain ⟨wy, f1, f2, f3, -⟩ := h.int (tag_eq htg.2.1)
                    obtain ⟨wz, g1, g2, g3, -⟩ := h.int (tag_eq htg.2.2)
                    rw [hm.2.1] at f1; cases f1
                    rw [hm.2.2.1] at g1; cases g1
                    exact ⟨x1.toInt, ⟨x1, at_app _ (at_app _ hm.1), rfl⟩, by simp only; omega, by simp only; omega⟩
                  · cases hu
                · cases hu
              · cases hu
            · obtain ⟨t1, ht1, ht2⟩ := List.mem_filterMap.mp hu
              obtain ⟨y, j1, j2, j3⟩ := i1 t1 ht1
              cases has : as[t1.1]? with
              | none => rw [has] at ht2; cases ht2
              | some s =>
                rw [has] at ht2
                cases ht2
                obtain ⟨v9, k8, k9⟩ := mp_at hm has
                rw [j1] at k9
                cases k9
                exact ⟨y.toInt, ⟨y, at_app _ (at_app _ k8), rfl⟩, j2, j3⟩
          · split at hb
            · rename_i ht
              have ht := Nat.eq_of_beq_eq_true ht
              cases hb
              unfold avOK at q4
              simp only [ht] at q4
              obtain ⟨x, rfl⟩ := q4
              exact ⟨_, hr1.pushN okS_long⟩
            · cases hb
theorem catA_ok (h : Rel ρ0 ρ (S, L, K, M) ls st σ) : ∀ {K' : List Nat} {r : List Value}, K'.map (fun s => ρ[s]?) = r.map some → (r.map fun v => v.category).sum = catA S K'
  | [], [], _ => rfl
  | [], _ :: _, h => by cases h
  | _ :: _, [], h => by cases h
  | s :: K', v :: r, hm => by
    injection hm with h1 h2
    have ih := catA_ok h (K' := K') (r := r) h2
    have hc := h.catL h1
    unfold catA at ih ⊢
    simp only [List.map_cons, List.sum_cons]
    rw [ih]
    congr 1
    split
    · rename_i hb
      exact hc.mp (Nat.le_of_ble_eq_true hb)
    · rename_i hb
      rcases lv_cat v with e | e
      · exact e
      · exact absurd (Nat.ble_eq_true_of_le (hc.mpr e)) hb
theorem caA_ok {d : Nat} {env : List (Nat × SP)} {i : Instr} {ex : List Nat} (hE : ∀ p ∈ env, SpecOK P TY I p.1 p.2) (h : Rel ρ0 ρ a ls st σ) (hG : Glo TY I ms σ0 σ) (hb : caA TY ms d env i ex a = some a') : ∃ mj av rest e Qc, caI i ex st = some (mj, av, rest) ∧ e < d ∧ mj < 1000 ∧ Ok P e mj av σ Qc ∧ ∀ v σ', Qc v σ' → (∃ ρ', Rel ρ0 ρ' a' ls (v.toList ++ rest) σ') ∧ Glo TY I ms σ0 σ' := by
  obtain ⟨S, L, K, M⟩ := a
  have hk := h.2.2.2.1
  simp only at hk
  have hlen : K.length = st.length := by have := congrArg List.length hk; simpa using this
  have hdr : ∀ n, (K.drop n).map (fun s => ρ[s]?) = (st.drop n).map some := fun n => by rw [List.map_drop, List.map_drop, hk]
  have htk : ∀ n, ((K.take n).reverse).map (fun s => ρ[s]?) = ((st.take n).reverse).map some := fun n => by rw [List.map_reverse, List.map_reverse, List.map_take, List.map_take, hk]
  cases i with
  | invokevirtual idx =>
    simp only [caA] at hb
    split at hb
    · rename_i mj n ci rx
      split at hb
      · rename_i r K' hd
        split at hb
        · rename_i hc
          simp only [Bool.and_eq_true] at hc
          split at hb
          · rename_i c fs hkn
            split at hb
            · rename_i hci
              have hdn := hdr n
              rw [hd] at hdn
              cases hst : st.drop n with
              | nil => rw [hst] at hdn; cases hdn
              | cons v rest =>
                rw [hst] at hdn
                injection hdn with e1 e2
                have e1 : ρ[r]? = some v := e1
                obtain ⟨q, rfl⟩ := h.isA e1 (tag_eq hc.1)
                have hkd := h.kind e1
                have hknd : knd q = some (0, c, fs) := by rw [kdn_knd hkd]; exact hkn
                have hR : Rel ρ0 ρ (S, L, K', M) ls rest σ := ⟨h.1, h.2.1, h.2.2.1, e2, h.2.2.2.2⟩
                have hm : (r :: (K.take n).reverse).map (fun s => ρ[s]?) = (Value.ref q :: (st.take n).reverse).map some := by
                  simp only [List.map_cons]
                  rw [e1, htk n]
                obtain ⟨e, Qc, g1, g2, g3, g4⟩ := behA_ok hE hR hG hm hb
                refine ⟨mj, _, rest, e, Qc, ?_, g1, g2, g3, g4⟩
                have hs8 : (rest.map fun v => v.category).sum ≤ 8 := by rw [catA_ok h e2]; exact Nat.le_of_ble_eq_true hc.2.2
                have hnl : n ≤ st.length := by rw [← hlen]; exact Nat.le_of_ble_eq_true hc.2.1
                simp only [caI, hst, hknd]
                rw [if_pos ⟨Nat.eq_of_beq_eq_true hci, hnl, hs8⟩]
            · cases hb
          · cases hb
        · cases hb
      · cases hb
    · cases hb
  | invokestatic idx =>
    simp only [caA] at hb
    split at hb
    · rename_i mj n rx
      split at hb
      · rename_i hc
        rw [Bool.and_eq_true] at hc
        have hR : Rel ρ0 ρ (S, L, K.drop n, M) ls (st.drop n) σ := ⟨h.1, h.2.1, h.2.2.1, hdr n, h.2.2.2.2⟩
        obtain ⟨e, Qc, g1, g2, g3, g4⟩ := behA_ok hE hR hG (htk n) hb
        refine ⟨mj, _, st.drop n, e, Qc, ?_, g1, g2, g3, g4⟩
        have hs8 : ((st.drop n).map fun v => v.category).sum ≤ 8 := by rw [catA_ok h (hdr n)]; exact Nat.le_of_ble_eq_true hc.2
        have hnl : n ≤ st.length := by rw [← hlen]; exact Nat.le_of_ble_eq_true hc.1
        simp only [caI]
        rw [if_pos ⟨hnl, hs8⟩]
      · cases hb
    · cases hb
  | _ => cases hb
theorem mmA_ok {d : Nat} {i : Instr} {ex : List Nat} (h : Rel ρ0 ρ a ls st σ) (hb : mmA d i ex a = some a') : ∃ mj av rest v ρ', caI i ex st = some (mj, av, rest) ∧ mm mj av = some v ∧ 0 < d ∧ Rel ρ0 ρ' a' ls (v :: rest) σ := by
  obtain ⟨S, L, K, M⟩ := a
  cases i with
  | invokestatic idx =>
    simp only [mmA] at hb
    split at hb
    · rename_i mj n rx y x K'
      split at hb
      · rename_i hc
        simp only [Bool.and_eq_true] at hc
        obtain ⟨c0, c1, c2, c3, c4⟩ := hc
        have hn := Nat.eq_of_beq_eq_true c0
        subst hn
        obtain ⟨vy, r1, rfl, e1, hr1⟩ := h.pop
        obtain ⟨vx, r2, rfl, e2, hr2⟩ := hr1.pop
        obtain ⟨wx, f1, f2, f3, -⟩ := h.int (tag_eq c2)
        obtain ⟨wy, g1, g2, g3, -⟩ := h.int (tag_eq c3)
        rw [e1] at g1; cases g1
        rw [e2] at f1; cases f1
        have hs8 : (r2.map fun v => v.category).sum ≤ 8 := by rw [catA_ok h hr2.2.2.2.1]; exact Nat.le_of_ble_eq_true c4
        have hca : caI (.invokestatic idx) (mj :: 2 :: rx) (.int wy :: .int wx :: r2) = some (mj, [.int wx, .int wy], r2) := by
          simp only [caI, List.length_cons, List.drop_succ_cons, List.drop_zero]
          rw [if_pos ⟨by omega, hs8⟩]
          rfl
        split at hb
        · rename_i hj
          have hj := Nat.eq_of_beq_eq_true hj
          subst hj
          cases hb
          refine ⟨1000, _, r2, .int (if wx < wy then wy else wx), _, hca, by simp [mm], Nat.le_of_ble_eq_true c1, hr2.pushN (okS_new hr2.1 ?_ ?_)⟩
          · by_cases hlt : wx < wy
            · rw [if_pos hlt]; have := lt_ii.mp hlt; unfold imax; split <;> omega
            · rw [if_neg hlt]; have : ¬ wx.toInt < wy.toInt := fun q => hlt (lt_ii.mpr q); unfold imax; split <;> omega
          · by_cases hlt : wx < wy
            · rw [if_pos hlt]; have := lt_ii.mp hlt; unfold imax; split <;> omega
            · rw [if_neg hlt]; have : ¬ wx.toInt < wy.toInt := fun q => hlt (lt_ii.mpr q); unfold imax; split <;> omega
        · split at hb
          · rename_i hj
            have hj := Nat.eq_of_beq_eq_true hj
            subst hj
            cases hb
            refine ⟨1001, _, r2, .int (if wy < wx then wy else wx), _, hca, by simp [mm], Nat.le_of_ble_eq_true c1, hr2.pushN (okS_new hr2.1 ?_ ?_)⟩
            · by_cases hlt : wy < wx
              · rw [if_pos hlt]; have := lt_ii.mp hlt; unfold imin; split <;> omega
              · rw [if_neg hlt]; have : ¬ wy.toInt < wx.toInt := fun q => hlt (lt_ii.mpr q); unfold imin; split <;> omega
            · by_cases hlt : wy < wx
              · rw [if_pos hlt]; have := lt_ii.mp hlt; unfold imin; split <;> omega
              · rw [if_neg hlt]; have : ¬ wy.toInt < wx.toInt := fun q => hlt (lt_ii.mpr q); unfold imin; split <;> omega
          · cases hb
      · cases hb
    · cases hb
  | _ => cases hb
theorem rtA_ok {ret : Option FieldType} {sp : SP} {argS : List (Nat × Nat)} {av : List Value} {i : Instr} (h : Rel ρ0 ρ a ls st σ) (hG : Glo TY I (spMods sp) σ0 σ) (hA : ∀ p ∈ argS, ∃ v, ρ[p.2]? = some v ∧ av[p.1]? = some v) (hb : rtA TY ret sp argS i a = true) : ∃ v, rtI i ret st = some v ∧ spQ TY I sp av σ0 v σ := by
  obtain ⟨S, L, K, M⟩ := a
  unfold rtA at hb
  simp only [Bool.and_eq_true] at hb
  obtain ⟨b1, ⟨b2, b2p⟩, b3⟩ := hb
  have hphi : ∀ (s : Nat), K = [s] → 2 ≤ spBt sp → ∃ w : Int32, ρ[s]? = some (.int w) ∧ w.toBitVec.toNat % 4 = spBt sp - 2 := by
    intro s hs h2
    subst hs
    rw [Nat.ble_eq_true_of_le h2] at b2p
    simp only [Bool.not_true, Bool.false_or, Bool.and_eq_true] at b2p
    obtain ⟨w, f1, f2, f3, -⟩ := h.int (tag_eq b2p.1)
    have b3p := b2p.2
    split at b3p
    · rename_i c hc
      exact ⟨w, f1, by rw [phi_ok h f1 f2 f3 hc]; exact Nat.eq_of_beq_eq_true b3p⟩
    · cases b3p
  have hphi0 : ¬ (∃ s, K = [s]) → ¬ 2 ≤ spBt sp := by
    intro hs h2
    rw [Nat.ble_eq_true_of_le h2] at b2p
    simp only [Bool.not_true, Bool.false_or] at b2p
    split at b2p
    · rename_i s; exact hs ⟨s, rfl⟩
    · cases b2p
  have hbt : ¬ spBt sp = 1 := fun e => by rw [e] at b2; cases b2
  have hpost : ∀ p ∈ spPost sp, fdOK av σ p := by
    intro p hp
    have := List.all_eq_true.mp b1 p hp
    split at this
    · rename_i r hr
      obtain ⟨v, g1, g2⟩ := hA _ (lookup_mem hr)
      have hf := fdA_ok h hG.1 (as := [r]) (av := [v]) (by simp [g1]) this
      obtain ⟨q, k1, k2⟩ := hf
      simp at k1
      subst k1
      exact ⟨q, g2, k2⟩
    · cases this
  cases i with
  | ireturn =>
    simp only at b3
    split at b3
    · rename_i s t hres
      simp only [Bool.and_eq_true] at b3
      obtain ⟨c0, c1, c2, c3⟩ := b3
      obtain ⟨v, r, rfl, e1, hr1⟩ := h.pop
      have hrn : r = [] := by
        have := hr1.2.2.2.1
        simp only [List.map_nil] at this
        exact (List.map_eq_nil_iff.mp this.symm)
      subst hrn
      have hav := arA_ok h c1 e1
      have ht0 := Nat.eq_of_beq_eq_true c0
      have hav2 := hav
      unfold avOK at hav
      simp only [ht0] at hav
      obtain ⟨w, rfl, k1, k2⟩ := hav
      have hro : retOK ret (some (.int w)) = true := by
        simp only [Bool.or_eq_true, Bool.and_eq_true, decide_eq_true_eq] at c2
        rcases c2 with e | ⟨e, e2⟩
        · rw [e]; rfl
        · rw [e]
          have : w = 0 ∨ w = 1 := by
            have : w.toInt = 0 ∨ w.toInt = 1 := by omega
            rcases this with e | e
            · exact Or.inl (Int32.toInt_inj.mp e)
            · exact Or.inr (Int32.toInt_inj.mp e)
          exact decide_eq_true this
      refine ⟨some (.int w), by simp only [rtI]; rw [if_pos hro], hG, by rw [hres]; exact hav2, ?_, hpost, ?_⟩
      rotate_left
      · intro h2
        obtain ⟨w9, e9, e8⟩ := hphi s rfl h2
        rw [e1] at e9
        cases e9
        exact ⟨w, rfl, e8⟩
      intro w' hw' hne
      cases hw'
      refine ⟨?_, fun e => absurd e hbt⟩
      intro u hu
      simp only [Bool.or_eq_true, decide_eq_true_eq] at c3
      rcases c3 with e | e
      · obtain ⟨w2, f1, f2, f3, -⟩ := h.int (h.tag0 e1)
        rw [e1] at f1; cases f1
        exact absurd (Int32.toInt_inj.mp (by rw [i0]; omega : w.toInt = (0 : Int32).toInt)) hne
      · have := List.all_eq_true.mp e u hu
        split at this
        · rename_i r hr
          simp only [Bool.and_eq_true, Bool.or_eq_true, decide_eq_true_eq] at this
          obtain ⟨v, g1, g2⟩ := hA _ (lookup_mem hr)
          obtain ⟨y, f1, f2, f3, -⟩ := h.int (tag_eq this.1)
          simp only at g1
          rw [g1] at f1
          cases f1
          refine ⟨y, g2, ?_⟩
          rcases this.2 with q | q
          · omega
          · obtain ⟨u2, hu2, hu3⟩ := List.any_eq_true.mp q
            simp only [Bool.and_eq_true, decide_eq_true_eq] at hu3
            obtain ⟨v3, m1, m2⟩ := h.val (gS_some (h.tag0 e1) (by decide))
            rw [e1] at m1
            cases m1
            obtain ⟨w3, n1, -, -, -, n5⟩ := okS_int m2 (h.tag0 e1)
            cases n1
            obtain ⟨z, ⟨w4, p1, p2⟩, p3, p4⟩ := n5 hne u2 hu2
            rw [Nat.eq_of_beq_eq_true hu3.1, g1] at p1
            cases p1
            omega
        · cases this
    · cases b3
  | lreturn =>
    simp only at b3
    split at b3
    · rename_i s t hres
      simp only [Bool.and_eq_true, decide_eq_true_eq] at b3
      obtain ⟨c0, c1, c2⟩ := b3
      obtain ⟨v, r, rfl, e1, hr1⟩ := h.pop
      have hrn : r = [] := by
        have := hr1.2.2.2.1
        simp only [List.map_nil] at this
        exact (List.map_eq_nil_iff.mp this.symm)
      subst hrn
      obtain ⟨w, rfl⟩ := h.isJ e1 (tag_eq c1)
      refine ⟨some (.long w), by simp only [rtI]; rw [if_pos (by rw [c2]; rfl)], hG, ?_, fun w' hw' => by (cases hw'), hpost, fun h2 => ?_⟩
      rotate_left
      · obtain ⟨w9, e9, e8⟩ := hphi s rfl h2
        rw [e1] at e9
        cases e9
      rw [hres]
      show avOK t (.long w)
      unfold avOK
      simp only [Nat.eq_of_beq_eq_true c0]
      exact ⟨w, rfl⟩
    · cases b3
  | return_ =>
    simp only at b3
    split at b3
    · rename_i hres
      have c2 := of_decide_eq_true b3
      have hrn : st = [] := by
        have := h.2.2.2.1
        simp only [List.map_nil] at this
        exact (List.map_eq_nil_iff.mp this.symm)
      subst hrn
      refine ⟨none, by simp only [rtI]; rw [if_pos (by rw [c2]; rfl)], hG, ?_, fun w' hw' => by (cases hw'), hpost, fun h2 => absurd h2 (hphi0 (fun ⟨s, hs⟩ => by cases hs))⟩
      rw [hres]
      trivial
    · cases b3
  | _ => cases b3
end AbsD
