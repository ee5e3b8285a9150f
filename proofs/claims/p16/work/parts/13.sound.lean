/-! the pure machine is the machine: cells, branches, calls, returns -/
theorem in_ws {ci : Nat} {C : String} {T : u_T} {N : Nat} (h : vwCl[ci]? = some (C, T, N)) : ∀ w ∈ u_ws C T N, w ∈ lwg := by
  have hlt : ci < 13 := (List.getElem?_eq_some_iff.mp h).1
  have hc : ci = 0 ∨ ci = 1 ∨ ci = 2 ∨ ci = 3 ∨ ci = 4 ∨ ci = 5 ∨ ci = 6 ∨ ci = 7 ∨ ci = 8 ∨ ci = 9 ∨ ci = 10 ∨ ci = 11 ∨ ci = 12 := by omega
  rcases hc with rfl | rfl | rfl | rfl | rfl | rfl | rfl | rfl | rfl | rfl | rfl | rfl | rfl <;> cases h
  · exact inX0
  · exact inX1
  · exact inX2
  · exact inX3
  · exact inX4
  · exact inX5
  · exact inX6
  · exact inX7
  · exact inX8
  · exact inX9
  · exact inX10
  · exact inX11
  · exact inX12
theorem ty_ws {ci : Nat} {C : String} {T : u_T} {N : Nat} (h : vwCl[ci]? = some (C, T, N)) : ∃ ty : Nat → FieldType, (∀ k, k < N → parseFieldDescriptor (T k).2.2.1 = some (ty k)) ∧ (∀ a, a < N → ∀ b, b < N → a ≠ b → (T a).2.1 ≠ (T b).2.1) := by
  have hlt : ci < 13 := (List.getElem?_eq_some_iff.mp h).1
  have hc : ci = 0 ∨ ci = 1 ∨ ci = 2 ∨ ci = 3 ∨ ci = 4 ∨ ci = 5 ∨ ci = 6 ∨ ci = 7 ∨ ci = 8 ∨ ci = 9 ∨ ci = 10 ∨ ci = 11 ∨ ci = 12 := by omega
  rcases hc with rfl | rfl | rfl | rfl | rfl | rfl | rfl | rfl | rfl | rfl | rfl | rfl | rfl <;> cases h
  · exact ⟨_, tyX0_ok, nmX0⟩
  · exact ⟨_, tyX1_ok, nmX1⟩
  · exact ⟨_, tyX2_ok, nmX2⟩
  · exact ⟨_, tyX3_ok, nmX3⟩
  · exact ⟨_, tyX4_ok, nmX4⟩
  · exact ⟨_, tyX5_ok, nmX5⟩
  · exact ⟨_, tyX6_ok, nmX6⟩
  · exact ⟨_, tyX7_ok, nmX7⟩
  · exact ⟨_, tyX8_ok, nmX8⟩
  · exact ⟨_, tyX9_ok, nmX9⟩
  · exact ⟨_, tyX10_ok, nmX10⟩
  · exact ⟨_, tyX11_ok, nmX11⟩
  · exact ⟨_, tyX12_ok, nmX12⟩
section Sound2
variable {p : Program} {l : Launch} {e : Env} {R : Room} {s : State} {m : MethodId} {args : Array Value} {below : List Frame} {meth : Method} {c : Code} {H : Heap} {locs : List Loc} {cells slots : Nat} {Q : State → Prop} {cc : ByteArray} {pc : Nat} {lsA : Array Slot} {θ : Th} {A : Nat → Prop} {H0 : Heap} {own : String} {nL : Nat} {rest : List Value}
theorem ldA_some {tag : Nat} {f : Nat → Nat → Value} {st st' : List Value} {σ σ' : Sg} (h : ldA tag f st σ = some (st', σ')) : ∃ i q r n fs, st = .int i :: .ref q :: r ∧ knd q = some (tag, n, fs) ∧ inR i n = true ∧ st' = f q i.toNatClampNeg :: r ∧ σ' = σ := by
  unfold ldA at h
  split at h
  · split at h
    · rename_i hk
      split at h
      · rename_i hc
        obtain ⟨rfl, hc⟩ := hc
        cases h
        exact ⟨_, _, _, _, _, rfl, hk, hc, rfl, rfl⟩
      · cases h
    · cases h
  · cases h
theorem stA_some {tag : Nat} {g : Int32 → Int32} {st st' : List Value} {σ σ' : Sg} (h : stA tag g st σ = some (st', σ')) : ∃ x i q n fs, st = .int x :: .int i :: .ref q :: st' ∧ knd q = some (tag, n, fs) ∧ inR i n = true ∧ σ' = s1 σ q i.toNatClampNeg (g x) := by
  unfold stA at h
  split at h
  · split at h
    · rename_i hk
      split at h
      · rename_i hc
        obtain ⟨rfl, hc⟩ := hc
        cases h
        exact ⟨_, _, _, _, _, rfl, hk, hc, rfl⟩
      · cases h
    · cases h
  · cases h
theorem Hw_int {σ : Sg} {q t n : Nat} {fs : List (Nat × Nat)} (hW : Hw θ A σ H) (hk : knd q = some (t, n, fs)) (h1 : 1 ≤ t) (h2 : t ≤ 3) : (mkW θ σ)[q]? = some (θ.2.1 q, .inl (θ.2.2 t, n, .inl (σ.1 q))) := by
  rw [mkW_at θ σ (knd_lt hk), mkE_int θ σ hk h1 h2]
theorem Hw_s1 {σ : Sg} {q t n : Nat} {fs : List (Nat × Nat)} {k : Nat} {x : Int32} (hk : knd q = some (t, n, fs)) (h1 : 1 ≤ t) (h2 : t ≤ 3) : (mkW θ σ).set q (θ.2.1 q, .inl (θ.2.2 t, n, .inl (upd (σ.1 q) k x))) = mkW θ (s1 σ q k x) :=
  mkW_set θ (by rw [mkE_int θ _ hk h1 h2, s1_row]) (fun q' hq => s1_ne σ x hq)
theorem fs_set {σ : Sg} {q k : Nat} {fs : List (Nat × Nat)} {x : Int32} {v : Value} {ft : Nat × Nat} (hf : fs[k]? = some ft) (hv : fV (s1 σ q k x) q k ft.1 = v) : ((List.range fs.length).map (fun k => tv θ (fV σ q k (fs.getD k (0, 0)).1))).set k (tv θ v) = (List.range fs.length).map (fun j => tv θ (fV (s1 σ q k x) q j (fs.getD j (0, 0)).1)) := by
  have hlt : k < fs.length := (List.getElem?_eq_some_iff.mp hf).1
  apply List.ext_getElem?
  intro i
  rw [List.getElem?_set]
  by_cases hi : i < fs.length
  · rw [List.getElem?_map, List.getElem?_map, List.getElem?_range hi]
    by_cases hq : k = i
    · subst hq
      have : fs.getD k (0, 0) = ft := by simp [List.getD, hf]
      simp only [List.length_map, List.length_range, hi, if_true, Option.map_some, this, hv]
    · rw [if_neg hq]
      simp only [Option.map_some]
      congr 2
      unfold fV s1
      have : ¬ i = k := fun e => hq e.symm
      simp [this]
  · rw [List.getElem?_map, List.getElem?_map, List.getElem?_eq_none (by simp; omega)]
    by_cases hq : k = i
    · subst hq; exact absurd hlt hi
    · rw [if_neg hq, Option.map_none, Option.map_none]
theorem putV_val {σ σ' : Sg} {q k ft : Nat} {v : Value} (h : putV σ q k ft v = some σ') : ∃ x, σ' = s1 σ q k x ∧ fV (s1 σ q k x) q k ft = v := by
  have hz : ∀ x, (s1 σ q k x).1 q k = x := fun x => by simp [s1]
  unfold putV at h
  split at h
  · cases h; exact ⟨_, rfl, by simp [fV, hz]⟩
  · split at h
    · cases h; exact ⟨_, rfl, by simp [fV, hz]⟩
    · cases h
  · cases h; exact ⟨0, rfl, by simp [fV, hz]⟩
  · rename_i q'
    split at h
    · rename_i hq
      cases h
      have hq1 : (0 : Nat) < (q' : Nat) := hq.1
      have hq2 : (q' : Nat) < 1000 := hq.2
      clear hq
      refine ⟨_, rfl, ?_⟩
      have h1 : (Int32.ofNat q').toInt = q' := Int32.toInt_ofNat_of_lt (Nat.lt_trans hq2 (by decide))
      have h2 : (Int32.ofNat q').toNatClampNeg = q' := by unfold Int32.toNatClampNeg; rw [h1]; rfl
      have h3 : ¬ Int32.ofNat q' = 0 := fun e => by
        rw [e] at h1
        have : (0 : Int32).toInt = 0 := rfl
        omega
      simp only [fV, hz, h2]
      rw [if_neg h3]
    · cases h
  · cases h
set_option maxHeartbeats 4000000 in
theorem hpI_sound {P : List MI} {i : Instr} {len : Nat} {ex : List Nat} {st st' : List Value} {σ σ' : Sg} (hx : p.tables.exec = Jvm.exec) (hb : c.code = cc) (hown : s.vm.findClass own = some m.cls) (hts : ∀ w ∈ lwg, w.before args s = true) (hdg0 : decode cc pc = .ok (i, len)) (hlen : lenI i = 0 ∨ len = lenI i) (hok : okL P own i ex) (h : hpI i ex st σ = some (st', σ')) (hK : va_K θ.1 vwCl (tysW θ) s) (hW : Hw θ A σ H) (hS : va_S A H0 H locs)
    (hft : ∀ ci C T N k q fs f, vwCl[ci]? = some (C, T, N) → knd q = some (0, ci, fs) → fs[k]? = some f → parseFieldDescriptor (T k).2.2.1 = some (match f.1 with | 0 => .int | 1 => .boolean | _ => .object "SignalTable$Game") ∨ f.1 = 2)
    (kk : ∀ H1 locs1, Hw θ A σ' H1 → va_S A H0 H1 locs1 → W p l e R s m args below meth c H1 locs1 cells slots Q (F0 m (pc + len) lsA (st'.map (tv θ)))) : W p l e R s m args below meth c H locs cells slots Q (F0 m pc lsA (st.map (tv θ))) := by
  have hdg : lenI i ≠ 0 → decode cc pc = .ok (i, lenI i) ∧ len = lenI i := fun h0 => by
    rcases hlen with h1 | h1
    · exact absurd h1 h0
    · rw [← h1]; exact ⟨hdg0, rfl⟩
  obtain ⟨hP, hD⟩ := hW
  cases i with
  | getfield idx =>
    obtain ⟨hd, rfl⟩ := hdg (by simp [lenI])
    simp only [hpI] at h
    unfold getF at h
    split at h
    · rename_i q r ci k rx
      split at h
      · rename_i c0 fs hk
        split at h
        · rename_i hc
          subst hc
          cases hf : fs[k]? with
          | none => rw [hf] at h; cases h
          | some f =>
            rw [hf] at h
            cases h
            have hat := mkW_at θ σ (knd_lt hk)
            rw [mkE_obj θ σ hk] at hat
            obtain ⟨⟨C, T, N⟩, hcl, -⟩ := hP q _ hat
            obtain ⟨hkN, hlk⟩ := hok c0 k rx rfl C T N hcl
            have hlt : k < fs.length := (List.getElem?_eq_some_iff.mp hf).1
            refine va_get (D := θ.1) (v := tv θ (fV σ q k f.1)) hx hb hts (in_ws hcl) hown hK hP q hat hcl k hkN (hts _ hlk) (fun _ h9 => h9) ?_ hd (kk H locs ⟨hP, hD⟩ hS)
            rw [List.getElem?_map, List.getElem?_range hlt]
            simp [List.getD, hf]
        · cases h
      · cases h
    · cases h
  | putfield idx =>
    obtain ⟨hd, rfl⟩ := hdg (by simp [lenI])
    simp only [hpI] at h
    unfold putF at h
    split at h
    · rename_i v q r ci k rx
      split at h
      · rename_i c0 fs hk
        split at h
        · rename_i hc
          subst hc
          cases hf : fs[k]? with
          | none => rw [hf] at h; cases h
          | some f =>
            rw [hf] at h
            simp only [Option.bind_some] at h
            cases hv : putV σ q k f.1 v with
            | none => rw [hv] at h; cases h
            | some σ1 =>
              rw [hv] at h
              cases h
              have hat := mkW_at θ σ (knd_lt hk)
              rw [mkE_obj θ σ hk] at hat
              obtain ⟨⟨C, T, N⟩, hcl, -⟩ := hP q _ hat
              obtain ⟨hkN, hlk, hfin⟩ := hok c0 k rx rfl C T N hcl
              have hlt : k < fs.length := (List.getElem?_eq_some_iff.mp hf).1
              obtain ⟨ty0, hty, hnm⟩ := ty_ws hcl
              have h2 : ¬ f.1 = 2 := fun e2 => by rw [e2] at hv; unfold putV at hv; split at hv <;> first | omega | cases hv
              have hpd := (hft _ C T N k q fs f hcl hk hf).resolve_right h2
              obtain ⟨x, rfl, hfv⟩ := putV_val hv
              have hnf : narrow (match f.1 with | 0 => FieldType.int | 1 => FieldType.boolean | _ => FieldType.object "SignalTable$Game") (tv θ v) = tv θ v ∧ fits (match f.1 with | 0 => FieldType.int | 1 => FieldType.boolean | _ => FieldType.object "SignalTable$Game") (tv θ v) = true := by
                generalize f.1 = ft at hv
                unfold putV at hv
                split at hv
                · exact ⟨rfl, rfl⟩
                · split at hv
                  · rename_i hx01
                    rcases hx01 with rfl | rfl <;> exact ⟨rfl, rfl⟩
                  · cases hv
                · exact ⟨rfl, rfl⟩
                · exact ⟨rfl, rfl⟩
                · cases hv
              refine va_put (D := θ.1) hx hb hts (in_ws hcl) ty0 hty hnm hown hK hP hD hS q hat hcl k hkN (hts _ hlk) (fun _ h9 => h9) hfin hpd hnf.1 hnf.2 (by simp; exact hlt) hd (fun H1 locs1 hP1 hD1 hS1 => ?_)
              have hset := mkW_set θ (σ := σ) (σ' := s1 σ q k x) (q := q) (x := .inr (c0, ((List.range fs.length).map (fun k => tv θ (fV σ q k (fs.getD k (0, 0)).1))).set k (tv θ v))) (by rw [mkE_obj θ _ hk, fs_set hf hfv]) (fun q' hq => s1_ne σ x hq)
              rw [hset] at hP1 hD1
              exact kk H1 locs1 ⟨hP1, hD1⟩ hS1
        · cases h
      · cases h
    · cases h
  | iaload =>
    obtain ⟨hd, rfl⟩ := hdg (by simp [lenI])
    simp only [hpI] at h
    obtain ⟨i, q, r, n, fs, rfl, hk, hin, rfl, rfl⟩ := ldA_some h
    exact va_iald hx hb hK hP q 0 (Hw_int ⟨hP, hD⟩ hk (by omega) (by omega)) rfl (inR_in hin) hd (kk H locs ⟨hP, hD⟩ hS)
  | baload =>
    obtain ⟨hd, rfl⟩ := hdg (by simp [lenI])
    simp only [hpI] at h
    cases h1 : ldA 2 (fun q j => Value.int (σ.1 q j)) st σ with
    | some r0 =>
      rw [h1] at h
      cases h
      obtain ⟨i, q, r, n, fs, rfl, hk, hin, rfl, rfl⟩ := ldA_some h1
      exact va_bald hx hb hK hP q 1 (Hw_int ⟨hP, hD⟩ hk (by omega) (by omega)) rfl (inR_in hin) hd (kk H locs ⟨hP, hD⟩ hS)
    | none =>
      rw [h1, Option.none_or] at h
      obtain ⟨i, q, r, n, fs, rfl, hk, hin, rfl, rfl⟩ := ldA_some h
      exact va_zald hx hb hK hP q 2 (Hw_int ⟨hP, hD⟩ hk (by omega) (by omega)) rfl (inR_in hin) hd (kk H locs ⟨hP, hD⟩ hS)
  | laload =>
    obtain ⟨hd, rfl⟩ := hdg (by simp [lenI])
    simp only [hpI] at h
    obtain ⟨i, q, r, n, fs, rfl, hk, hin, rfl, rfl⟩ := ldA_some h
    exact va_lald hx hb hK hP q 3 (by rw [mkW_at θ _ (knd_lt hk), mkE_long θ _ hk]) rfl (inR_in hin) hd (kk H locs ⟨hP, hD⟩ hS)
  | aaload =>
    obtain ⟨hd, rfl⟩ := hdg (by simp [lenI])
    have hgo : ∀ (t : Nat), 5 ≤ t → t ≤ 7 → ldA t (fun q j => Value.ref (tg q j)) st σ = some (st', σ') → W p l e R s m args below meth c H locs cells slots Q (F0 m pc lsA (st.map (tv θ))) := by
      intro t h5 h7 h
      obtain ⟨i, q, r, n, fs, rfl, hk, hin, rfl, rfl⟩ := ldA_some h
      have ha : (mkW θ σ')[q]? = some (θ.2.1 q, .inl (θ.2.2 t, n, .inr (.inr (.inr (.inr (fun j => some (θ.2.1 (tg q j)))))))) := by rw [mkW_at θ σ' (knd_lt hk), mkE_ref θ σ' hk h5]
      have hlt : i.toNatClampNeg < n := Nat.not_le.mp fun z => (inR_in hin) (Or.inr z)
      have hT := hK.2 (t - 1) _ (tysW_at θ (by omega) h7)
      refine W.aald (v := .ref (θ.2.1 (tg q i.toNatClampNeg))) (ty := tyT t) hx hb (hP q _ ha) (hT.1 n (fun j => va_rf (some (θ.2.1 (tg q j))))) ?_ (fun z => by cases z) (by show ¬ (i < 0 ∨ (arrV _ _ _).slots.size ≤ _); rw [arrV_size]; exact inR_in hin) (by show (arrV _ _ _).slots[_]? = _; rw [arrV_read _ _ hlt]; rfl) rfl rfl hd (kk H locs ⟨hP, hD⟩ hS)
      have h : t = 5 ∨ t = 6 ∨ t = 7 := by omega
      rcases h with rfl | rfl | rfl <;> rfl
    simp only [hpI] at h
    cases h1 : ldA 5 (fun q j => Value.ref (tg q j)) st σ with
    | some r0 => rw [h1] at h; exact hgo 5 (by omega) (by omega) (h1.trans h)
    | none =>
      rw [h1, Option.none_or] at h
      cases h2 : ldA 6 (fun q j => Value.ref (tg q j)) st σ with
      | some r0 => rw [h2] at h; exact hgo 6 (by omega) (by omega) (h2.trans h)
      | none => rw [h2, Option.none_or] at h; exact hgo 7 (by omega) (by omega) h
  | iastore =>
    obtain ⟨hd, rfl⟩ := hdg (by simp [lenI])
    simp only [hpI] at h
    obtain ⟨x, i, q, n, fs, rfl, hk, hin, rfl⟩ := stA_some h
    refine va_iast hx hb hK hP hD hS q 0 (Hw_int ⟨hP, hD⟩ hk (by omega) (by omega)) rfl (inR_in hin) hd (fun H1 locs1 hP1 hD1 hS1 => ?_)
    rw [Hw_s1 hk (by omega) (by omega)] at hP1 hD1
    exact kk H1 locs1 ⟨hP1, hD1⟩ hS1
  | bastore =>
    obtain ⟨hd, rfl⟩ := hdg (by simp [lenI])
    simp only [hpI] at h
    cases h1 : stA 2 (vp_nar .byte) st σ with
    | some r0 =>
      rw [h1] at h
      cases h
      obtain ⟨x, i, q, n, fs, rfl, hk, hin, rfl⟩ := stA_some h1
      refine va_bast hx hb hK hP hD hS q 1 (Hw_int ⟨hP, hD⟩ hk (by omega) (by omega)) rfl (inR_in hin) hd (fun H1 locs1 hP1 hD1 hS1 => ?_)
      rw [Hw_s1 hk (by omega) (by omega)] at hP1 hD1
      exact kk H1 locs1 ⟨hP1, hD1⟩ hS1
    | none =>
      rw [h1, Option.none_or] at h
      obtain ⟨x, i, q, n, fs, rfl, hk, hin, rfl⟩ := stA_some h
      refine va_zast hx hb hK hP hD hS q 2 (Hw_int ⟨hP, hD⟩ hk (by omega) (by omega)) rfl (inR_in hin) hd (fun H1 locs1 hP1 hD1 hS1 => ?_)
      rw [Hw_s1 hk (by omega) (by omega)] at hP1 hD1
      exact kk H1 locs1 ⟨hP1, hD1⟩ hS1
  | lastore =>
    obtain ⟨hd, rfl⟩ := hdg (by simp [lenI])
    simp only [hpI] at h
    split at h
    · rename_i x i q r
      split at h
      · rename_i n fs hk
        split at h
        · rename_i hin
          cases h
          refine va_last hx hb hK hP hD hS q 3 (by rw [mkW_at θ σ (knd_lt hk), mkE_long θ σ hk]) rfl (inR_in hin) hd (fun H1 locs1 hP1 hD1 hS1 => ?_)
          have hset := mkW_set θ (σ := σ) (σ' := s2 σ q i.toNatClampNeg x) (q := q) (x := .inl (θ.2.2 4, n, .inr (.inl (vp_updL (σ.2 q) i.toNatClampNeg x)))) (by rw [mkE_long θ _ hk]; congr 5; funext j; simp [s2, vp_updL]) (fun q' hq => s2_ne σ x hq)
          rw [hset] at hP1 hD1
          exact kk H1 locs1 ⟨hP1, hD1⟩ hS1
        · cases h
      · cases h
    · cases h
  | arraylength =>
    obtain ⟨hd, rfl⟩ := hdg (by simp [lenI])
    simp only [hpI] at h
    split at h
    · rename_i q r
      split at h
      · rename_i t n fs hk
        split at h
        · rename_i ht
          cases h
          have hex : ∃ x : vp_A, (mkW θ σ)[q]? = some (θ.2.1 q, .inl (θ.2.2 t, x)) ∧ x.1 = n := by
            rw [mkW_at θ σ (knd_lt hk)]
            by_cases h3 : t ≤ 3
            · exact ⟨(n, .inl (σ.1 q)), by rw [mkE_int θ σ hk ht.1 h3], rfl⟩
            · by_cases h4 : t = 4
              · subst h4; exact ⟨(n, .inr (.inl (σ.2 q))), by rw [mkE_long θ σ hk], rfl⟩
              · exact ⟨(n, .inr (.inr (.inr (.inr (fun j => some (θ.2.1 (tg q j))))))), by rw [mkE_ref θ σ hk (by omega)], rfl⟩
          obtain ⟨x, hx1, hx2⟩ := hex
          exact va_alen hx hb hK hP q (t - 1) hx1 (tysW_at θ ht.1 ht.2) (by rw [hx2]) hd (kk H locs ⟨hP, hD⟩ hS)
        · cases h
      · cases h
    · cases h
  | _ => cases h
end Sound2
