set_option maxHeartbeats 8000000 in
set_option maxRecDepth 100000 in
theorem whole_start {p : Program} {e : Env} {s : State} {m : MethodId} {below : List Frame} {meth : Method} {c : Code} (l : Launch) {b L : Nat} {xs : Nat → Int32} (hL : L ≤ 6) (C0 : lw_At p s m meth c b L xs) : W p l e room_1 s m #[Value.ref b] below meth c s.heap [] 0 0 (lw_Z below #[Value.ref b] s) (entryFrame m ([Value.ref b] : List Value).toArray 4) := by
  obtain ⟨hx, hb, hr, hml, hown, hts0, hX, hbl, hlocks, hgv⟩ := id C0
  have hts : ∀ w ∈ lwg, w.before #[Value.ref b] s = true := fun w h => hts0 w (wu_tbl h)
  have hown : s.vm.findClass "SignalTableLaw" = some m.cls := hown
  obtain ⟨A, hAd⟩ : ∃ A : Nat → Prop, A = (fun a : Nat => s.heap.size ≤ a) := ⟨_, rfl⟩
  have hA : ∀ q : Nat, s.heap.size ≤ q → A q := by rw [hAd]; exact fun _ h => h
  have hAn : ∀ a : Nat, a < s.heap.size → ¬ A a := by rw [hAd]; exact fun _ h => Nat.not_le.mpr h
  have hbA : ¬ A b := hAn b hbl
  obtain ⟨c0, iS0, hKn0⟩ := u_known (C := RX0) (T := TX0) (N := 3) (n := 3) hts inX0 (hts (.instantiable RX0 3) kw_662)
  obtain ⟨c1, iS1, hKn1⟩ := u_known (C := RX1) (T := TX1) (N := 13) (n := 13) hts inX1 (hts (.instantiable RX1 13) kw_567)
  obtain ⟨c2, iS2, hKn2⟩ := u_known (C := RX2) (T := TX2) (N := 3) (n := 3) hts inX2 (hts (.instantiable RX2 3) kw_646)
  obtain ⟨c3, iS3, hKn3⟩ := u_known (C := RX3) (T := TX3) (N := 18) (n := 18) hts inX3 (hts (.instantiable RX3 18) kw_415)
  obtain ⟨c4, iS4, hKn4⟩ := u_known (C := RX4) (T := TX4) (N := 3) (n := 3) hts inX4 (hts (.instantiable RX4 3) kw_282)
  obtain ⟨c5, iS5, hKn5⟩ := u_known (C := RX5) (T := TX5) (N := 16) (n := 16) hts inX5 (hts (.instantiable RX5 16) kw_183)
  obtain ⟨c6, iS6, hKn6⟩ := u_known (C := RX6) (T := TX6) (N := 14) (n := 14) hts inX6 (hts (.instantiable RX6 14) kw_516)
  obtain ⟨c7, iS7, hKn7⟩ := u_known (C := RX7) (T := TX7) (N := 2) (n := 2) hts inX7 (hts (.instantiable RX7 2) kw_679)
  obtain ⟨c8, iS8, hKn8⟩ := u_known (C := RX8) (T := TX8) (N := 11) (n := 11) hts inX8 (hts (.instantiable RX8 11) kw_298)
  obtain ⟨c9, iS9, hKn9⟩ := u_known (C := RX9) (T := TX9) (N := 5) (n := 5) hts inX9 (hts (.instantiable RX9 5) kw_304)
  obtain ⟨c10, iS10, hKn10⟩ := u_known (C := RX10) (T := TX10) (N := 7) (n := 7) hts inX10 (hts (.instantiable RX10 7) kw_618)
  obtain ⟨c11, iS11, hKn11⟩ := u_known (C := RX11) (T := TX11) (N := 14) (n := 14) hts inX11 (hts (.instantiable RX11 14) kw_175)
  obtain ⟨c12, iS12, hKn12⟩ := u_known (C := RX12) (T := TX12) (N := 95) (n := 95) hts inX12 (hts (.instantiable RX12 95) kw_1501)
  obtain ⟨D, hKc⟩ : ∃ D : va_G, ∀ (k : Nat) (q : vw_C), vwCl[k]? = some q → u_Kn s q.1 q.2.1 q.2.2 (D.1 k) (D.2 k) := by
    refine ⟨(fun k => match k with | 0 => c0 | 1 => c1 | 2 => c2 | 3 => c3 | 4 => c4 | 5 => c5 | 6 => c6 | 7 => c7 | 8 => c8 | 9 => c9 | 10 => c10 | 11 => c11 | _ => c12, fun k => match k with | 0 => iS0 | 1 => iS1 | 2 => iS2 | 3 => iS3 | 4 => iS4 | 5 => iS5 | 6 => iS6 | 7 => iS7 | 8 => iS8 | 9 => iS9 | 10 => iS10 | 11 => iS11 | _ => iS12), ?_⟩
    intro k q hq
    match k, hq with
    | 0, hq => cases hq; exact hKn0
    | 1, hq => cases hq; exact hKn1
    | 2, hq => cases hq; exact hKn2
    | 3, hq => cases hq; exact hKn3
    | 4, hq => cases hq; exact hKn4
    | 5, hq => cases hq; exact hKn5
    | 6, hq => cases hq; exact hKn6
    | 7, hq => cases hq; exact hKn7
    | 8, hq => cases hq; exact hKn8
    | 9, hq => cases hq; exact hKn9
    | 10, hq => cases hq; exact hKn10
    | 11, hq => cases hq; exact hKn11
    | 12, hq => cases hq; exact hKn12
    | k + 13, hq => simp [vwCl] at hq
  have hS : va_S A s.heap s.heap [] := va_S.rf
  have hK : va_K D vwCl [] s := ⟨hKc, fun k q h => by simp at h⟩
  have hP : va_P D vwCl [] s.heap := fun k q h => by simp at h
  have hD : va_D A [] := ⟨fun i j p q h => by simp at h, fun k q h => by simp at h⟩
  obtain ⟨a, v, fm, hR1, hStr⟩ := law_str hgv hts0 hAn
  have hN1 : va_Nw (.methodLinkNest "SignalTable" 15 yX5_init "SignalTable") s := va_Nw.of rfl (hts0 _ (List.mem_of_getElem? (i := 184) (by decide +kernel)))
  have hN2 : va_Nw (.methodLinkNest "SignalTable" 86 yX0_init "SignalTable") s := va_Nw.of rfl (hts0 _ (List.mem_of_getElem? (i := 663) (by decide +kernel)))
  have hAO : va_AO "SignalTable$Game" s := hts0 (.arrayOver (.object "SignalTable$Game")) (List.mem_of_getElem? (i := 514) (by decide +kernel))
  have hAI : AOA .int s := hts0 (.arrayOver (.array .int)) (List.mem_of_getElem? (i := 573) (by decide +kernel))
  have hAL : AOA .long s := hts0 (.arrayOver (.array .long)) (List.mem_of_getElem? (i := 575) (by decide +kernel))
  have hl := lv_entry ([.ref b]) (n := 4) (Nat.le_of_ble_eq_true rfl)
  rw [lg_entry_eq]
  generalize (lg_sl ([.ref b]) ++ List.replicate (4 - (lg_sl ([.ref b])).length) Slot.unset).toArray = ls at hl ⊢
  have hl : lv_has ls 4 [(0, .ref b)] := hl
  refine va_new (D := D) (ci := 11) (fs := [.null, .int 0, .null, .null, .null, .null, .null, .null, .null, .null, .null, .null, .null, .null]) (C := RX11) (T := TX11) (N := 14) hx hb hts inX11 tyX11 tyX11_ok hown (hts _ kw_174) (hts _ kw_175) (hts _ kw_154) hK hP hD hS hA rfl dfX11 (by decide) (by decide) dL_law_0 (fun a0_1 H hP hD hS => ?_)
  have hP : va_P D vwCl [(a0_1, .inr (11, [.null, .int 0, .null, .null, .null, .null, .null, .null, .null, .null, .null, .null, .null, .null]))] H := hP
  have hD : va_D A [(a0_1, .inr (11, [.null, .int 0, .null, .null, .null, .null, .null, .null, .null, .null, .null, .null, .null, .null]))] := hD
  refine W.cs (cells' := 1) (slots' := 14) rfl rfl ?_
  refine lv_dup hx hb dL_law_3 rfl ?_
  refine wr_I (As := []) (rest := [.ref a0_1]) caI_SignalTableLaw_9 hx hb hml hown hts hP hD hK hS hA (isC := [0]) (isR := []) (isT := []) (wr := []) ⟨rfl, rfl, rfl, rfl, by decide⟩ rfl (wX11_init a0_1 a v (fun j => byW.getD j 0) fm) EX_bl (fun U hU hW => ⟨ES_of hR1 hStr hS (va_free hD hS hA [0] rfl) U hU hW, va_Nw.warmM hW hN1, va_Nw.warmM hW hN2, va_AO.moved hW.alike hAO, AOA.moved hW.alike hAI, AOA.moved hW.alike hAL⟩) (by decide) rfl hl.1 (Nat.le_of_ble_eq_true rfl) (by decide) dL_law_4 rfl (fun q2 k2 g2 l2 H locs hP hD hK hS => ?_)
  have hP : va_P D vwCl [(a0_1, .inr (11, [.ref (q2 1), .int 0, .ref (q2 2), .ref (q2 30), .ref (q2 6), .ref (q2 11), .ref (q2 15), .ref (q2 16), .ref (q2 19), .ref (q2 31), .ref (q2 21), .ref (q2 22), .ref (q2 24), .ref (q2 25)])), ((q2 1), .inl ((k2 1), 2000, .inl (g2 1))), ((q2 2), .inr (5, [.int 4, .int 4, .int (-1), .int 0, .ref (q2 32), .ref (q2 33), .ref (q2 34), .ref (q2 35), .ref (q2 36), .int 0, .int 16, .int 4, .ref (q2 3), .ref (q2 4), .ref (q2 5), .int 1820])), ((q2 3), .inl ((k2 3), 4, .inl (g2 3))), ((q2 4), .inl ((k2 4), 16, .inl (g2 4))), ((q2 5), .inl ((k2 5), 1820, .inl (g2 5))), ((q2 6), .inr (8, [.ref (q2 7), .ref (q2 2), .ref (q2 37), .int 0, .int 0, .int 0, .int 0, .int 0, .int (-1), .int 0, .int 0])), ((q2 7), .inr (9, [.ref (q2 8), .ref (q2 9), .ref (q2 10), .ref (q2 38), .int 0])), ((q2 8), .inl ((k2 8), 402, .inl (g2 8))), ((q2 9), .inl ((k2 9), 402, .inl (g2 9))), ((q2 10), .inl ((k2 10), 402, .inr (.inl (l2 10)))), ((q2 11), .inr (3, [.ref (q2 2), .ref (q2 30), .int 0, .ref (q2 12), .ref (q2 13), .int 0, .int (-2), .int 0, .ref (q2 14), .ref (q2 50), .ref (q2 51), .ref (q2 52), .ref (q2 53), .ref (q2 54), .ref (q2 55), .ref (q2 56), .ref (q2 57), .int 0])), ((q2 12), .inl ((k2 12), 4, .inl (g2 12))), ((q2 13), .inl ((k2 13), 4, .inl (g2 13))), ((q2 14), .inl ((k2 14), 16, .inl (g2 14))), ((q2 15), .inr (3, [.ref (q2 2), .ref (q2 30), .int 0, .ref (q2 60), .ref (q2 61), .int 0, .int (-2), .int 0, .ref (q2 62), .ref (q2 63), .ref (q2 64), .ref (q2 65), .ref (q2 66), .ref (q2 67), .ref (q2 68), .ref (q2 69), .ref (q2 70), .int 0])), ((q2 16), .inl ((k2 16), 2, .inr (.inr (.inr (.inr (va_up (va_up (fun _ => none) 0 (some (q2 17))) 1 (some (q2 18)))))))), ((q2 17), .inr (3, [.ref (q2 2), .ref (q2 30), .int 0, .ref (q2 72), .ref (q2 73), .int 0, .int (-2), .int 0, .ref (q2 74), .ref (q2 75), .ref (q2 76), .ref (q2 77), .ref (q2 78), .ref (q2 79), .ref (q2 80), .ref (q2 81), .ref (q2 82), .int 0])), ((q2 18), .inr (3, [.ref (q2 2), .ref (q2 30), .int 0, .ref (q2 84), .ref (q2 85), .int 0, .int (-2), .int 0, .ref (q2 86), .ref (q2 87), .ref (q2 88), .ref (q2 89), .ref (q2 90), .ref (q2 91), .ref (q2 92), .ref (q2 93), .ref (q2 94), .int 0])), ((q2 19), .inr (6, [.ref (q2 2), .ref (q2 3), .ref (q2 4), .ref (q2 39), .int 0, .int 0, .int 0, .int 0, .ref (q2 40), .int 0, .int 1, .ref (q2 20), .ref (q2 41), .int (-1)])), ((q2 20), .inl ((k2 20), 4, .inl (g2 20))), ((q2 21), .inr (10, [.ref (q2 31), .ref (q2 19), .ref (q2 42), .int 0, .null, .int 0, .int 0])), ((q2 22), .inr (2, [.ref (q2 15), .ref (q2 21), .ref (q2 23)])), ((q2 23), .inl ((k2 23), 1024, .inl (g2 23))), ((q2 24), .inr (0, [.ref (q2 43), .ref (q2 44), .int 0])), ((q2 25), .inr (7, [.ref (q2 2), .ref (q2 30)]))] H := hP
  have hD : va_D A [(a0_1, .inr (11, [.ref (q2 1), .int 0, .ref (q2 2), .ref (q2 30), .ref (q2 6), .ref (q2 11), .ref (q2 15), .ref (q2 16), .ref (q2 19), .ref (q2 31), .ref (q2 21), .ref (q2 22), .ref (q2 24), .ref (q2 25)])), ((q2 1), .inl ((k2 1), 2000, .inl (g2 1))), ((q2 2), .inr (5, [.int 4, .int 4, .int (-1), .int 0, .ref (q2 32), .ref (q2 33), .ref (q2 34), .ref (q2 35), .ref (q2 36), .int 0, .int 16, .int 4, .ref (q2 3), .ref (q2 4), .ref (q2 5), .int 1820])), ((q2 3), .inl ((k2 3), 4, .inl (g2 3))), ((q2 4), .inl ((k2 4), 16, .inl (g2 4))), ((q2 5), .inl ((k2 5), 1820, .inl (g2 5))), ((q2 6), .inr (8, [.ref (q2 7), .ref (q2 2), .ref (q2 37), .int 0, .int 0, .int 0, .int 0, .int 0, .int (-1), .int 0, .int 0])), ((q2 7), .inr (9, [.ref (q2 8), .ref (q2 9), .ref (q2 10), .ref (q2 38), .int 0])), ((q2 8), .inl ((k2 8), 402, .inl (g2 8))), ((q2 9), .inl ((k2 9), 402, .inl (g2 9))), ((q2 10), .inl ((k2 10), 402, .inr (.inl (l2 10)))), ((q2 11), .inr (3, [.ref (q2 2), .ref (q2 30), .int 0, .ref (q2 12), .ref (q2 13), .int 0, .int (-2), .int 0, .ref (q2 14), .ref (q2 50), .ref (q2 51), .ref (q2 52), .ref (q2 53), .ref (q2 54), .ref (q2 55), .ref (q2 56), .ref (q2 57), .int 0])), ((q2 12), .inl ((k2 12), 4, .inl (g2 12))), ((q2 13), .inl ((k2 13), 4, .inl (g2 13))), ((q2 14), .inl ((k2 14), 16, .inl (g2 14))), ((q2 15), .inr (3, [.ref (q2 2), .ref (q2 30), .int 0, .ref (q2 60), .ref (q2 61), .int 0, .int (-2), .int 0, .ref (q2 62), .ref (q2 63), .ref (q2 64), .ref (q2 65), .ref (q2 66), .ref (q2 67), .ref (q2 68), .ref (q2 69), .ref (q2 70), .int 0])), ((q2 16), .inl ((k2 16), 2, .inr (.inr (.inr (.inr (va_up (va_up (fun _ => none) 0 (some (q2 17))) 1 (some (q2 18)))))))), ((q2 17), .inr (3, [.ref (q2 2), .ref (q2 30), .int 0, .ref (q2 72), .ref (q2 73), .int 0, .int (-2), .int 0, .ref (q2 74), .ref (q2 75), .ref (q2 76), .ref (q2 77), .ref (q2 78), .ref (q2 79), .ref (q2 80), .ref (q2 81), .ref (q2 82), .int 0])), ((q2 18), .inr (3, [.ref (q2 2), .ref (q2 30), .int 0, .ref (q2 84), .ref (q2 85), .int 0, .int (-2), .int 0, .ref (q2 86), .ref (q2 87), .ref (q2 88), .ref (q2 89), .ref (q2 90), .ref (q2 91), .ref (q2 92), .ref (q2 93), .ref (q2 94), .int 0])), ((q2 19), .inr (6, [.ref (q2 2), .ref (q2 3), .ref (q2 4), .ref (q2 39), .int 0, .int 0, .int 0, .int 0, .ref (q2 40), .int 0, .int 1, .ref (q2 20), .ref (q2 41), .int (-1)])), ((q2 20), .inl ((k2 20), 4, .inl (g2 20))), ((q2 21), .inr (10, [.ref (q2 31), .ref (q2 19), .ref (q2 42), .int 0, .null, .int 0, .int 0])), ((q2 22), .inr (2, [.ref (q2 15), .ref (q2 21), .ref (q2 23)])), ((q2 23), .inl ((k2 23), 1024, .inl (g2 23))), ((q2 24), .inr (0, [.ref (q2 43), .ref (q2 44), .int 0])), ((q2 25), .inr (7, [.ref (q2 2), .ref (q2 30)]))] := hD
  have hK : va_K D vwCl [((k2 1), .byte), ((k2 3), .int), ((k2 4), .int), ((k2 5), .int), ((k2 8), .int), ((k2 9), .int), ((k2 10), .long), ((k2 12), .int), ((k2 13), .int), ((k2 14), .int), ((k2 16), .object "SignalTable$Game"), ((k2 20), .int), ((k2 23), .int)] s := hK
  refine W.cs (cells' := 97) (slots' := 15681) rfl rfl ?_
  refine lv_astore_n (lv' := [(1, .ref a0_1), (0, .ref b)]) hx hb dL_law_7 rfl hl (by decide) rfl (fun ls hl => ?_)
  refine va_new (D := D) (ci := 12) (fs := [.int 0, .null, .int 0, .null, .int 0, .null, .null, .null, .null, .null, .int 0, .int 0, .int 0, .int 0, .int 0, .int 0, .int 0, .int 0, .int 0, .int 0, .int 0, .null, .null, .null, .null, .null, .null, .null, .null, .null, .int 0, .null, .null, .null, .null, .null, .null, .int 0, .null, .null, .null, .int 0, .null, .null, .int 0, .int 0, .null, .int 0, .int 0, .null, .null, .null, .null, .int 0, .int 0, .int 0, .null, .null, .null, .int 0, .int 0, .int 0, .null, .null, .null, .null, .null, .null, .null, .int 0, .null, .int 0, .null, .null, .null, .null, .null, .null, .int 0, .int 0, .int 0, .null, .int 0, .int 0, .null, .null, .int 0, .null, .null, .null, .null, .null, .null, .null, .null]) (C := RX12) (T := TX12) (N := 95) hx hb hts inX12 tyX12 tyX12_ok hown (hts _ kw_1500) (hts _ kw_1501) (hts _ kw_171) hK hP hD hS hA rfl dfX12 (by decide) (by decide) dL_law_8 (fun a8_3 H hP hD hS => ?_)
  have hP : va_P D vwCl [(a0_1, .inr (11, [.ref (q2 1), .int 0, .ref (q2 2), .ref (q2 30), .ref (q2 6), .ref (q2 11), .ref (q2 15), .ref (q2 16), .ref (q2 19), .ref (q2 31), .ref (q2 21), .ref (q2 22), .ref (q2 24), .ref (q2 25)])), ((q2 1), .inl ((k2 1), 2000, .inl (g2 1))), ((q2 2), .inr (5, [.int 4, .int 4, .int (-1), .int 0, .ref (q2 32), .ref (q2 33), .ref (q2 34), .ref (q2 35), .ref (q2 36), .int 0, .int 16, .int 4, .ref (q2 3), .ref (q2 4), .ref (q2 5), .int 1820])), ((q2 3), .inl ((k2 3), 4, .inl (g2 3))), ((q2 4), .inl ((k2 4), 16, .inl (g2 4))), ((q2 5), .inl ((k2 5), 1820, .inl (g2 5))), ((q2 6), .inr (8, [.ref (q2 7), .ref (q2 2), .ref (q2 37), .int 0, .int 0, .int 0, .int 0, .int 0, .int (-1), .int 0, .int 0])), ((q2 7), .inr (9, [.ref (q2 8), .ref (q2 9), .ref (q2 10), .ref (q2 38), .int 0])), ((q2 8), .inl ((k2 8), 402, .inl (g2 8))), ((q2 9), .inl ((k2 9), 402, .inl (g2 9))), ((q2 10), .inl ((k2 10), 402, .inr (.inl (l2 10)))), ((q2 11), .inr (3, [.ref (q2 2), .ref (q2 30), .int 0, .ref (q2 12), .ref (q2 13), .int 0, .int (-2), .int 0, .ref (q2 14), .ref (q2 50), .ref (q2 51), .ref (q2 52), .ref (q2 53), .ref (q2 54), .ref (q2 55), .ref (q2 56), .ref (q2 57), .int 0])), ((q2 12), .inl ((k2 12), 4, .inl (g2 12))), ((q2 13), .inl ((k2 13), 4, .inl (g2 13))), ((q2 14), .inl ((k2 14), 16, .inl (g2 14))), ((q2 15), .inr (3, [.ref (q2 2), .ref (q2 30), .int 0, .ref (q2 60), .ref (q2 61), .int 0, .int (-2), .int 0, .ref (q2 62), .ref (q2 63), .ref (q2 64), .ref (q2 65), .ref (q2 66), .ref (q2 67), .ref (q2 68), .ref (q2 69), .ref (q2 70), .int 0])), ((q2 16), .inl ((k2 16), 2, .inr (.inr (.inr (.inr (va_up (va_up (fun _ => none) 0 (some (q2 17))) 1 (some (q2 18)))))))), ((q2 17), .inr (3, [.ref (q2 2), .ref (q2 30), .int 0, .ref (q2 72), .ref (q2 73), .int 0, .int (-2), .int 0, .ref (q2 74), .ref (q2 75), .ref (q2 76), .ref (q2 77), .ref (q2 78), .ref (q2 79), .ref (q2 80), .ref (q2 81), .ref (q2 82), .int 0])), ((q2 18), .inr (3, [.ref (q2 2), .ref (q2 30), .int 0, .ref (q2 84), .ref (q2 85), .int 0, .int (-2), .int 0, .ref (q2 86), .ref (q2 87), .ref (q2 88), .ref (q2 89), .ref (q2 90), .ref (q2 91), .ref (q2 92), .ref (q2 93), .ref (q2 94), .int 0])), ((q2 19), .inr (6, [.ref (q2 2), .ref (q2 3), .ref (q2 4), .ref (q2 39), .int 0, .int 0, .int 0, .int 0, .ref (q2 40), .int 0, .int 1, .ref (q2 20), .ref (q2 41), .int (-1)])), ((q2 20), .inl ((k2 20), 4, .inl (g2 20))), ((q2 21), .inr (10, [.ref (q2 31), .ref (q2 19), .ref (q2 42), .int 0, .null, .int 0, .int 0])), ((q2 22), .inr (2, [.ref (q2 15), .ref (q2 21), .ref (q2 23)])), ((q2 23), .inl ((k2 23), 1024, .inl (g2 23))), ((q2 24), .inr (0, [.ref (q2 43), .ref (q2 44), .int 0])), ((q2 25), .inr (7, [.ref (q2 2), .ref (q2 30)])), (a8_3, .inr (12, [.int 0, .null, .int 0, .null, .int 0, .null, .null, .null, .null, .null, .int 0, .int 0, .int 0, .int 0, .int 0, .int 0, .int 0, .int 0, .int 0, .int 0, .int 0, .null, .null, .null, .null, .null, .null, .null, .null, .null, .int 0, .null, .null, .null, .null, .null, .null, .int 0, .null, .null, .null, .int 0, .null, .null, .int 0, .int 0, .null, .int 0, .int 0, .null, .null, .null, .null, .int 0, .int 0, .int 0, .null, .null, .null, .int 0, .int 0, .int 0, .null, .null, .null, .null, .null, .null, .null, .int 0, .null, .int 0, .null, .null, .null, .null, .null, .null, .int 0, .int 0, .int 0, .null, .int 0, .int 0, .null, .null, .int 0, .null, .null, .null, .null, .null, .null, .null, .null]))] H := hP
  have hD : va_D A [(a0_1, .inr (11, [.ref (q2 1), .int 0, .ref (q2 2), .ref (q2 30), .ref (q2 6), .ref (q2 11), .ref (q2 15), .ref (q2 16), .ref (q2 19), .ref (q2 31), .ref (q2 21), .ref (q2 22), .ref (q2 24), .ref (q2 25)])), ((q2 1), .inl ((k2 1), 2000, .inl (g2 1))), ((q2 2), .inr (5, [.int 4, .int 4, .int (-1), .int 0, .ref (q2 32), .ref (q2 33), .ref (q2 34), .ref (q2 35), .ref (q2 36), .int 0, .int 16, .int 4, .ref (q2 3), .ref (q2 4), .ref (q2 5), .int 1820])), ((q2 3), .inl ((k2 3), 4, .inl (g2 3))), ((q2 4), .inl ((k2 4), 16, .inl (g2 4))), ((q2 5), .inl ((k2 5), 1820, .inl (g2 5))), ((q2 6), .inr (8, [.ref (q2 7), .ref (q2 2), .ref (q2 37), .int 0, .int 0, .int 0, .int 0, .int 0, .int (-1), .int 0, .int 0])), ((q2 7), .inr (9, [.ref (q2 8), .ref (q2 9), .ref (q2 10), .ref (q2 38), .int 0])), ((q2 8), .inl ((k2 8), 402, .inl (g2 8))), ((q2 9), .inl ((k2 9), 402, .inl (g2 9))), ((q2 10), .inl ((k2 10), 402, .inr (.inl (l2 10)))), ((q2 11), .inr (3, [.ref (q2 2), .ref (q2 30), .int 0, .ref (q2 12), .ref (q2 13), .int 0, .int (-2), .int 0, .ref (q2 14), .ref (q2 50), .ref (q2 51), .ref (q2 52), .ref (q2 53), .ref (q2 54), .ref (q2 55), .ref (q2 56), .ref (q2 57), .int 0])), ((q2 12), .inl ((k2 12), 4, .inl (g2 12))), ((q2 13), .inl ((k2 13), 4, .inl (g2 13))), ((q2 14), .inl ((k2 14), 16, .inl (g2 14))), ((q2 15), .inr (3, [.ref (q2 2), .ref (q2 30), .int 0, .ref (q2 60), .ref (q2 61), .int 0, .int (-2), .int 0, .ref (q2 62), .ref (q2 63), .ref (q2 64), .ref (q2 65), .ref (q2 66), .ref (q2 67), .ref (q2 68), .ref (q2 69), .ref (q2 70), .int 0])), ((q2 16), .inl ((k2 16), 2, .inr (.inr (.inr (.inr (va_up (va_up (fun _ => none) 0 (some (q2 17))) 1 (some (q2 18)))))))), ((q2 17), .inr (3, [.ref (q2 2), .ref (q2 30), .int 0, .ref (q2 72), .ref (q2 73), .int 0, .int (-2), .int 0, .ref (q2 74), .ref (q2 75), .ref (q2 76), .ref (q2 77), .ref (q2 78), .ref (q2 79), .ref (q2 80), .ref (q2 81), .ref (q2 82), .int 0])), ((q2 18), .inr (3, [.ref (q2 2), .ref (q2 30), .int 0, .ref (q2 84), .ref (q2 85), .int 0, .int (-2), .int 0, .ref (q2 86), .ref (q2 87), .ref (q2 88), .ref (q2 89), .ref (q2 90), .ref (q2 91), .ref (q2 92), .ref (q2 93), .ref (q2 94), .int 0])), ((q2 19), .inr (6, [.ref (q2 2), .ref (q2 3), .ref (q2 4), .ref (q2 39), .int 0, .int 0, .int 0, .int 0, .ref (q2 40), .int 0, .int 1, .ref (q2 20), .ref (q2 41), .int (-1)])), ((q2 20), .inl ((k2 20), 4, .inl (g2 20))), ((q2 21), .inr (10, [.ref (q2 31), .ref (q2 19), .ref (q2 42), .int 0, .null, .int 0, .int 0])), ((q2 22), .inr (2, [.ref (q2 15), .ref (q2 21), .ref (q2 23)])), ((q2 23), .inl ((k2 23), 1024, .inl (g2 23))), ((q2 24), .inr (0, [.ref (q2 43), .ref (q2 44), .int 0])), ((q2 25), .inr (7, [.ref (q2 2), .ref (q2 30)])), (a8_3, .inr (12, [.int 0, .null, .int 0, .null, .int 0, .null, .null, .null, .null, .null, .int 0, .int 0, .int 0, .int 0, .int 0, .int 0, .int 0, .int 0, .int 0, .int 0, .int 0, .null, .null, .null, .null, .null, .null, .null, .null, .null, .int 0, .null, .null, .null, .null, .null, .null, .int 0, .null, .null, .null, .int 0, .null, .null, .int 0, .int 0, .null, .int 0, .int 0, .null, .null, .null, .null, .int 0, .int 0, .int 0, .null, .null, .null, .int 0, .int 0, .int 0, .null, .null, .null, .null, .null, .null, .null, .int 0, .null, .int 0, .null, .null, .null, .null, .null, .null, .int 0, .int 0, .int 0, .null, .int 0, .int 0, .null, .null, .int 0, .null, .null, .null, .null, .null, .null, .null, .null]))] := hD
  refine W.cs (cells' := 98) (slots' := 15776) rfl rfl ?_
  refine lv_dup hx hb dL_law_11 rfl ?_
  refine wr_I (As := []) (rest := [.ref a8_3]) caI_SignalTableLaw_12 hx hb hml hown hts hP hD hK hS hA (isC := [26]) (isR := [0, 1, 2, 3, 4, 5, 6, 7, 8, 9, 10, 11, 12, 13, 14, 15, 16, 17, 18, 19, 20, 21, 22, 23, 24, 25]) (isT := []) (wr := [(a0_1, .inr (11, [.ref (q2 1), .int 0, .ref (q2 2), .ref (q2 30), .ref (q2 6), .ref (q2 11), .ref (q2 15), .ref (q2 16), .ref (q2 19), .ref (q2 31), .ref (q2 21), .ref (q2 22), .ref (q2 24), .ref (q2 25)])), ((q2 1), .inl ((k2 1), 2000, .inl (g2 1))), ((q2 2), .inr (5, [.int 4, .int 4, .int (-1), .int 0, .ref (q2 32), .ref (q2 33), .ref (q2 34), .ref (q2 35), .ref (q2 36), .int 0, .int 16, .int 4, .ref (q2 3), .ref (q2 4), .ref (q2 5), .int 1820])), ((q2 3), .inl ((k2 3), 4, .inl (g2 3))), ((q2 4), .inl ((k2 4), 16, .inl (g2 4))), ((q2 5), .inl ((k2 5), 1820, .inl (g2 5))), ((q2 6), .inr (8, [.ref (q2 7), .ref (q2 2), .ref (q2 37), .int 0, .int 0, .int 0, .int 0, .int 0, .int (-1), .int 0, .int 0])), ((q2 7), .inr (9, [.ref (q2 8), .ref (q2 9), .ref (q2 10), .ref (q2 38), .int 0])), ((q2 8), .inl ((k2 8), 402, .inl (g2 8))), ((q2 9), .inl ((k2 9), 402, .inl (g2 9))), ((q2 10), .inl ((k2 10), 402, .inr (.inl (l2 10)))), ((q2 11), .inr (3, [.ref (q2 2), .ref (q2 30), .int 0, .ref (q2 12), .ref (q2 13), .int 0, .int (-2), .int 0, .ref (q2 14), .ref (q2 50), .ref (q2 51), .ref (q2 52), .ref (q2 53), .ref (q2 54), .ref (q2 55), .ref (q2 56), .ref (q2 57), .int 0])), ((q2 12), .inl ((k2 12), 4, .inl (g2 12))), ((q2 13), .inl ((k2 13), 4, .inl (g2 13))), ((q2 14), .inl ((k2 14), 16, .inl (g2 14))), ((q2 15), .inr (3, [.ref (q2 2), .ref (q2 30), .int 0, .ref (q2 60), .ref (q2 61), .int 0, .int (-2), .int 0, .ref (q2 62), .ref (q2 63), .ref (q2 64), .ref (q2 65), .ref (q2 66), .ref (q2 67), .ref (q2 68), .ref (q2 69), .ref (q2 70), .int 0])), ((q2 16), .inl ((k2 16), 2, .inr (.inr (.inr (.inr (va_up (va_up (fun _ => none) 0 (some (q2 17))) 1 (some (q2 18)))))))), ((q2 17), .inr (3, [.ref (q2 2), .ref (q2 30), .int 0, .ref (q2 72), .ref (q2 73), .int 0, .int (-2), .int 0, .ref (q2 74), .ref (q2 75), .ref (q2 76), .ref (q2 77), .ref (q2 78), .ref (q2 79), .ref (q2 80), .ref (q2 81), .ref (q2 82), .int 0])), ((q2 18), .inr (3, [.ref (q2 2), .ref (q2 30), .int 0, .ref (q2 84), .ref (q2 85), .int 0, .int (-2), .int 0, .ref (q2 86), .ref (q2 87), .ref (q2 88), .ref (q2 89), .ref (q2 90), .ref (q2 91), .ref (q2 92), .ref (q2 93), .ref (q2 94), .int 0])), ((q2 19), .inr (6, [.ref (q2 2), .ref (q2 3), .ref (q2 4), .ref (q2 39), .int 0, .int 0, .int 0, .int 0, .ref (q2 40), .int 0, .int 1, .ref (q2 20), .ref (q2 41), .int (-1)])), ((q2 20), .inl ((k2 20), 4, .inl (g2 20))), ((q2 21), .inr (10, [.ref (q2 31), .ref (q2 19), .ref (q2 42), .int 0, .null, .int 0, .int 0])), ((q2 22), .inr (2, [.ref (q2 15), .ref (q2 21), .ref (q2 23)])), ((q2 23), .inl ((k2 23), 1024, .inl (g2 23))), ((q2 24), .inr (0, [.ref (q2 43), .ref (q2 44), .int 0])), ((q2 25), .inr (7, [.ref (q2 2), .ref (q2 30)]))]) ⟨rfl, rfl, rfl, rfl, by decide⟩ rfl (wX12_init a8_3) bl_T (fun _ _ _ => trivial) (by decide) rfl hl.1 (Nat.le_of_ble_eq_true rfl) (by decide) dL_law_12 rfl (fun q4 k4 g4 l4 H locs hP hD hK hS => ?_)
  have hP : va_P D vwCl [(a0_1, .inr (11, [.ref (q2 1), .int 0, .ref (q2 2), .ref (q2 30), .ref (q2 6), .ref (q2 11), .ref (q2 15), .ref (q2 16), .ref (q2 19), .ref (q2 31), .ref (q2 21), .ref (q2 22), .ref (q2 24), .ref (q2 25)])), ((q2 1), .inl ((k2 1), 2000, .inl (g2 1))), ((q2 2), .inr (5, [.int 4, .int 4, .int (-1), .int 0, .ref (q2 32), .ref (q2 33), .ref (q2 34), .ref (q2 35), .ref (q2 36), .int 0, .int 16, .int 4, .ref (q2 3), .ref (q2 4), .ref (q2 5), .int 1820])), ((q2 3), .inl ((k2 3), 4, .inl (g2 3))), ((q2 4), .inl ((k2 4), 16, .inl (g2 4))), ((q2 5), .inl ((k2 5), 1820, .inl (g2 5))), ((q2 6), .inr (8, [.ref (q2 7), .ref (q2 2), .ref (q2 37), .int 0, .int 0, .int 0, .int 0, .int 0, .int (-1), .int 0, .int 0])), ((q2 7), .inr (9, [.ref (q2 8), .ref (q2 9), .ref (q2 10), .ref (q2 38), .int 0])), ((q2 8), .inl ((k2 8), 402, .inl (g2 8))), ((q2 9), .inl ((k2 9), 402, .inl (g2 9))), ((q2 10), .inl ((k2 10), 402, .inr (.inl (l2 10)))), ((q2 11), .inr (3, [.ref (q2 2), .ref (q2 30), .int 0, .ref (q2 12), .ref (q2 13), .int 0, .int (-2), .int 0, .ref (q2 14), .ref (q2 50), .ref (q2 51), .ref (q2 52), .ref (q2 53), .ref (q2 54), .ref (q2 55), .ref (q2 56), .ref (q2 57), .int 0])), ((q2 12), .inl ((k2 12), 4, .inl (g2 12))), ((q2 13), .inl ((k2 13), 4, .inl (g2 13))), ((q2 14), .inl ((k2 14), 16, .inl (g2 14))), ((q2 15), .inr (3, [.ref (q2 2), .ref (q2 30), .int 0, .ref (q2 60), .ref (q2 61), .int 0, .int (-2), .int 0, .ref (q2 62), .ref (q2 63), .ref (q2 64), .ref (q2 65), .ref (q2 66), .ref (q2 67), .ref (q2 68), .ref (q2 69), .ref (q2 70), .int 0])), ((q2 16), .inl ((k2 16), 2, .inr (.inr (.inr (.inr (va_up (va_up (fun _ => none) 0 (some (q2 17))) 1 (some (q2 18)))))))), ((q2 17), .inr (3, [.ref (q2 2), .ref (q2 30), .int 0, .ref (q2 72), .ref (q2 73), .int 0, .int (-2), .int 0, .ref (q2 74), .ref (q2 75), .ref (q2 76), .ref (q2 77), .ref (q2 78), .ref (q2 79), .ref (q2 80), .ref (q2 81), .ref (q2 82), .int 0])), ((q2 18), .inr (3, [.ref (q2 2), .ref (q2 30), .int 0, .ref (q2 84), .ref (q2 85), .int 0, .int (-2), .int 0, .ref (q2 86), .ref (q2 87), .ref (q2 88), .ref (q2 89), .ref (q2 90), .ref (q2 91), .ref (q2 92), .ref (q2 93), .ref (q2 94), .int 0])), ((q2 19), .inr (6, [.ref (q2 2), .ref (q2 3), .ref (q2 4), .ref (q2 39), .int 0, .int 0, .int 0, .int 0, .ref (q2 40), .int 0, .int 1, .ref (q2 20), .ref (q2 41), .int (-1)])), ((q2 20), .inl ((k2 20), 4, .inl (g2 20))), ((q2 21), .inr (10, [.ref (q2 31), .ref (q2 19), .ref (q2 42), .int 0, .null, .int 0, .int 0])), ((q2 22), .inr (2, [.ref (q2 15), .ref (q2 21), .ref (q2 23)])), ((q2 23), .inl ((k2 23), 1024, .inl (g2 23))), ((q2 24), .inr (0, [.ref (q2 43), .ref (q2 44), .int 0])), ((q2 25), .inr (7, [.ref (q2 2), .ref (q2 30)])), (a8_3, .inr (12, [.int 0, .ref (q4 1), .int 0, .ref (q4 20), .int 0, .ref (q4 2), .ref (q4 3), .ref (q4 4), .ref (q4 5), .ref (q4 21), .int 0, .int 0, .int 0, .int 0, .int 0, .int 0, .int 0, .int (-1), .int 0, .int 0, .int 0, .ref (q4 22), .ref (q4 6), .ref (q4 7), .ref (q4 8), .ref (q4 9), .ref (q4 23), .ref (q4 24), .ref (q4 25), .ref (q4 26), .int 0, .ref (q4 27), .ref (q4 28), .ref (q4 29), .ref (q4 30), .ref (q4 31), .ref (q4 32), .int 0, .ref (q4 33), .ref (q4 34), .ref (q4 35), .int 0, .ref (q4 13), .ref (q4 36), .int 0, .int 0, .ref (q4 10), .int 0, .int 0, .ref (q4 37), .ref (q4 38), .ref (q4 11), .ref (q4 39), .int 0, .int 0, .int 0, .ref (q4 40), .ref (q4 41), .ref (q4 42), .int 0, .int 0, .int 0, .ref (q4 43), .ref (q4 44), .ref (q4 45), .ref (q4 46), .ref (q4 47), .ref (q4 48), .ref (q4 49), .int 0, .ref (q4 50), .int 0, .ref (q4 51), .ref (q4 52), .ref (q4 53), .ref (q4 54), .ref (q4 55), .ref (q4 56), .int 0, .int 0, .int 0, .ref (q4 57), .int 0, .int 0, .ref (q4 58), .ref (q4 59), .int 0, .ref (q4 60), .ref (q4 61), .ref (q4 12), .ref (q4 62), .ref (q4 63), .ref (q4 64), .ref (q4 65), .ref (q4 66)])), ((q4 1), .inl ((k4 1), 2000, .inl (g4 1))), ((q4 2), .inl ((k4 2), 403, .inl (g4 2))), ((q4 3), .inl ((k4 3), 403, .inl (g4 3))), ((q4 4), .inl ((k4 4), 403, .inl (g4 4))), ((q4 5), .inl ((k4 5), 403, .inr (.inl (l4 5)))), ((q4 6), .inl ((k4 6), 2, .inl (upd (fun _ => 0) 0 4))), ((q4 7), .inl ((k4 7), 2, .inl (upd (fun _ => 0) 0 4))), ((q4 8), .inl ((k4 8), 2, .inl (upd (fun _ => 0) 0 (-1)))), ((q4 9), .inl ((k4 9), 2, .inl (fun _ => 0))), ((q4 10), .inl ((k4 10), 4, .inl (g4 10))), ((q4 11), .inl ((k4 11), 16, .inl (g4 11))), ((q4 12), .inl ((k4 12), 2, .inl (fun _ => 0))), ((q4 13), .inl ((k4 13), 14, .inl (g4 13)))] H := hP
  have hD : va_D A [(a0_1, .inr (11, [.ref (q2 1), .int 0, .ref (q2 2), .ref (q2 30), .ref (q2 6), .ref (q2 11), .ref (q2 15), .ref (q2 16), .ref (q2 19), .ref (q2 31), .ref (q2 21), .ref (q2 22), .ref (q2 24), .ref (q2 25)])), ((q2 1), .inl ((k2 1), 2000, .inl (g2 1))), ((q2 2), .inr (5, [.int 4, .int 4, .int (-1), .int 0, .ref (q2 32), .ref (q2 33), .ref (q2 34), .ref (q2 35), .ref (q2 36), .int 0, .int 16, .int 4, .ref (q2 3), .ref (q2 4), .ref (q2 5), .int 1820])), ((q2 3), .inl ((k2 3), 4, .inl (g2 3))), ((q2 4), .inl ((k2 4), 16, .inl (g2 4))), ((q2 5), .inl ((k2 5), 1820, .inl (g2 5))), ((q2 6), .inr (8, [.ref (q2 7), .ref (q2 2), .ref (q2 37), .int 0, .int 0, .int 0, .int 0, .int 0, .int (-1), .int 0, .int 0])), ((q2 7), .inr (9, [.ref (q2 8), .ref (q2 9), .ref (q2 10), .ref (q2 38), .int 0])), ((q2 8), .inl ((k2 8), 402, .inl (g2 8))), ((q2 9), .inl ((k2 9), 402, .inl (g2 9))), ((q2 10), .inl ((k2 10), 402, .inr (.inl (l2 10)))), ((q2 11), .inr (3, [.ref (q2 2), .ref (q2 30), .int 0, .ref (q2 12), .ref (q2 13), .int 0, .int (-2), .int 0, .ref (q2 14), .ref (q2 50), .ref (q2 51), .ref (q2 52), .ref (q2 53), .ref (q2 54), .ref (q2 55), .ref (q2 56), .ref (q2 57), .int 0])), ((q2 12), .inl ((k2 12), 4, .inl (g2 12))), ((q2 13), .inl ((k2 13), 4, .inl (g2 13))), ((q2 14), .inl ((k2 14), 16, .inl (g2 14))), ((q2 15), .inr (3, [.ref (q2 2), .ref (q2 30), .int 0, .ref (q2 60), .ref (q2 61), .int 0, .int (-2), .int 0, .ref (q2 62), .ref (q2 63), .ref (q2 64), .ref (q2 65), .ref (q2 66), .ref (q2 67), .ref (q2 68), .ref (q2 69), .ref (q2 70), .int 0])), ((q2 16), .inl ((k2 16), 2, .inr (.inr (.inr (.inr (va_up (va_up (fun _ => none) 0 (some (q2 17))) 1 (some (q2 18)))))))), ((q2 17), .inr (3, [.ref (q2 2), .ref (q2 30), .int 0, .ref (q2 72), .ref (q2 73), .int 0, .int (-2), .int 0, .ref (q2 74), .ref (q2 75), .ref (q2 76), .ref (q2 77), .ref (q2 78), .ref (q2 79), .ref (q2 80), .ref (q2 81), .ref (q2 82), .int 0])), ((q2 18), .inr (3, [.ref (q2 2), .ref (q2 30), .int 0, .ref (q2 84), .ref (q2 85), .int 0, .int (-2), .int 0, .ref (q2 86), .ref (q2 87), .ref (q2 88), .ref (q2 89), .ref (q2 90), .ref (q2 91), .ref (q2 92), .ref (q2 93), .ref (q2 94), .int 0])), ((q2 19), .inr (6, [.ref (q2 2), .ref (q2 3), .ref (q2 4), .ref (q2 39), .int 0, .int 0, .int 0, .int 0, .ref (q2 40), .int 0, .int 1, .ref (q2 20), .ref (q2 41), .int (-1)])), ((q2 20), .inl ((k2 20), 4, .inl (g2 20))), ((q2 21), .inr (10, [.ref (q2 31), .ref (q2 19), .ref (q2 42), .int 0, .null, .int 0, .int 0])), ((q2 22), .inr (2, [.ref (q2 15), .ref (q2 21), .ref (q2 23)])), ((q2 23), .inl ((k2 23), 1024, .inl (g2 23))), ((q2 24), .inr (0, [.ref (q2 43), .ref (q2 44), .int 0])), ((q2 25), .inr (7, [.ref (q2 2), .ref (q2 30)])), (a8_3, .inr (12, [.int 0, .ref (q4 1), .int 0, .ref (q4 20), .int 0, .ref (q4 2), .ref (q4 3), .ref (q4 4), .ref (q4 5), .ref (q4 21), .int 0, .int 0, .int 0, .int 0, .int 0, .int 0, .int 0, .int (-1), .int 0, .int 0, .int 0, .ref (q4 22), .ref (q4 6), .ref (q4 7), .ref (q4 8), .ref (q4 9), .ref (q4 23), .ref (q4 24), .ref (q4 25), .ref (q4 26), .int 0, .ref (q4 27), .ref (q4 28), .ref (q4 29), .ref (q4 30), .ref (q4 31), .ref (q4 32), .int 0, .ref (q4 33), .ref (q4 34), .ref (q4 35), .int 0, .ref (q4 13), .ref (q4 36), .int 0, .int 0, .ref (q4 10), .int 0, .int 0, .ref (q4 37), .ref (q4 38), .ref (q4 11), .ref (q4 39), .int 0, .int 0, .int 0, .ref (q4 40), .ref (q4 41), .ref (q4 42), .int 0, .int 0, .int 0, .ref (q4 43), .ref (q4 44), .ref (q4 45), .ref (q4 46), .ref (q4 47), .ref (q4 48), .ref (q4 49), .int 0, .ref (q4 50), .int 0, .ref (q4 51), .ref (q4 52), .ref (q4 53), .ref (q4 54), .ref (q4 55), .ref (q4 56), .int 0, .int 0, .int 0, .ref (q4 57), .int 0, .int 0, .ref (q4 58), .ref (q4 59), .int 0, .ref (q4 60), .ref (q4 61), .ref (q4 12), .ref (q4 62), .ref (q4 63), .ref (q4 64), .ref (q4 65), .ref (q4 66)])), ((q4 1), .inl ((k4 1), 2000, .inl (g4 1))), ((q4 2), .inl ((k4 2), 403, .inl (g4 2))), ((q4 3), .inl ((k4 3), 403, .inl (g4 3))), ((q4 4), .inl ((k4 4), 403, .inl (g4 4))), ((q4 5), .inl ((k4 5), 403, .inr (.inl (l4 5)))), ((q4 6), .inl ((k4 6), 2, .inl (upd (fun _ => 0) 0 4))), ((q4 7), .inl ((k4 7), 2, .inl (upd (fun _ => 0) 0 4))), ((q4 8), .inl ((k4 8), 2, .inl (upd (fun _ => 0) 0 (-1)))), ((q4 9), .inl ((k4 9), 2, .inl (fun _ => 0))), ((q4 10), .inl ((k4 10), 4, .inl (g4 10))), ((q4 11), .inl ((k4 11), 16, .inl (g4 11))), ((q4 12), .inl ((k4 12), 2, .inl (fun _ => 0))), ((q4 13), .inl ((k4 13), 14, .inl (g4 13)))] := hD
  have hK : va_K D vwCl [((k2 1), .byte), ((k2 3), .int), ((k2 4), .int), ((k2 5), .int), ((k2 8), .int), ((k2 9), .int), ((k2 10), .long), ((k2 12), .int), ((k2 13), .int), ((k2 14), .int), ((k2 16), .object "SignalTable$Game"), ((k2 20), .int), ((k2 23), .int), ((k4 1), .byte), ((k4 2), .int), ((k4 3), .int), ((k4 4), .int), ((k4 5), .long), ((k4 6), .int), ((k4 7), .int), ((k4 8), .int), ((k4 9), .int), ((k4 10), .int), ((k4 11), .int), ((k4 12), .boolean), ((k4 13), .int)] s := hK
  refine W.cs (cells' := 158) (slots' := 353581) rfl rfl ?_
  refine lv_astore_n (lv' := [(2, .ref a8_3), (1, .ref a0_1), (0, .ref b)]) hx hb dL_law_15 rfl hl (by decide) rfl (fun ls hl => ?_)
  refine lv_iconst (v := 0) hx hb dL_law_16 (by decide) ?_
  refine W.eq (g2 := F0 m 17 ls [.int 0]) rfl ?_
  refine lv_istore_n (lv' := [(3, .int 0), (2, .ref a8_3), (1, .ref a0_1), (0, .ref b)]) hx hb dL_law_17 rfl hl (by decide) rfl (fun ls hl => ?_)
  obtain ⟨q, eq⟩ : ∃ q : Nat → Nat, q = (fun i => match i with | 0 => a0_1 | i + 1 => q2 (i + 1)) := ⟨_, rfl⟩
  obtain ⟨q2, eq2⟩ : ∃ q : Nat → Nat, q = (fun i => match i with | 0 => a8_3 | i + 1 => q4 (i + 1)) := ⟨_, rfl⟩
  have hPx : va_P D vwCl (wX q k2 g2 l2) H := by rw [eq]; exact hP.sub [0, 1, 2, 3, 4, 5, 6, 7, 8, 9, 10, 11, 12, 13, 14, 15, 16, 17, 18, 19, 20, 21, 22, 23, 24, 25] rfl
  have hPm : va_P D vwCl (wM q2 k4 g4 l4) H := by rw [eq2]; exact hP.sub [26, 27, 28, 29, 30, 31, 32, 33, 34, 35, 36, 37, 38, 39] rfl
  have hD : va_D A (wX q k2 g2 l2 ++ wM q2 k4 g4 l4) := by rw [eq, eq2]; exact hD.sub [0, 1, 2, 3, 4, 5, 6, 7, 8, 9, 10, 11, 12, 13, 14, 15, 16, 17, 18, 19, 20, 21, 22, 23, 24, 25, 26, 27, 28, 29, 30, 31, 32, 33, 34, 35, 36, 37, 38, 39] (by decide) rfl
  have hKx : va_K D vwCl (tyX k2) s := hK.sub [0, 1, 2, 3, 4, 5, 6, 7, 8, 9, 10, 11, 12] rfl
  have hKm : va_K D vwCl (tyM k4) s := hK.sub [13, 14, 15, 16, 17, 18, 19, 20, 21, 22, 23, 24, 25] rfl
  have hl : lv_has ls 4 [(3, .int 0), (2, .ref (q2 0)), (1, .ref (q 0)), (0, .ref b)] := by rw [eq, eq2]; exact lv_sub hl [0, 1, 2, 3] rfl
  subst hAd
  have hneg : ∀ L : Nat, L < 6 → Int32.ofNat L - 6 < 0 := by decide
  refine W.eq (g2 := F0 m 18 ls []) rfl ?_
  refine lv_iload_n hx hb dL_law_18 rfl (lv_at hl 0 rfl) ?_
  refine lv_aload_n hx hb dL_law_19 rfl (lv_at hl 3 rfl) ?_
  refine va_slen hx hb hX hbl hbA hS dL_law_20 ?_
  refine lv_bipush (v := 6) hx hb dL_law_21 (by decide) ?_
  refine lv_isub hx hb dL_law_23 ?_
  rcases Nat.lt_or_ge L 6 with hlt | hge
  · refine lv_icmp_gt (tgt := 1500) hx hb dL_law_24 (by decide) (fun _ => ?_) (fun h => absurd (hneg L hlt) h)
    refine lv_iconst (v := 1) hx hb dL_law_1500 (by decide) ?_
    refine va_forget (fun q hq => hS.2.2 q hq) ?_
    refine W.widen (k := 600000) (n := 7302250) (by decide) (by decide) ?_
    exact lw_ret hx hb hr hlocks dL_law_1501
  · obtain rfl : L = 6 := by omega
    refine lv_icmp_gt (tgt := 1500) hx hb dL_law_24 (by decide) (fun h => absurd h (by decide)) (fun _ => ?_)
    refine W.eq (g2 := F0 m 27 ls []) rfl ?_
    have fin : ∀ (H : Heap) (locs : List Loc) (ls : Array Slot), va_S (fun a : Nat => s.heap.size ≤ a) s.heap H locs → lv_has ls 4 [(3, .int 0), (0, .ref b)] → W p l e room_1 s m #[Value.ref b] below meth c H locs 158 353581 (lw_Z below #[Value.ref b] s) (F0 m 1494 ls []) := by
      intro H locs ls hS hl
      refine lv_iinc (v := 6) (lv' := [(3, .int 6), (0, .ref b)]) hx hb dL_law_1494 hl (k := 0) rfl (by decide) (by decide) rfl (fun ls hl => ?_)
      refine lv_goto (tgt := 18) hx hb dL_law_1497 (by decide) ?_
      refine lv_iload_n hx hb dL_law_18 rfl (lv_at hl 0 rfl) ?_
      refine lv_aload_n hx hb dL_law_19 rfl (lv_at hl 1 rfl) ?_
      refine va_slen hx hb hX hbl hbA hS dL_law_20 ?_
      refine lv_bipush (v := 6) hx hb dL_law_21 (by decide) ?_
      refine lv_isub hx hb dL_law_23 ?_
      refine lv_icmp_gt (tgt := 1500) hx hb dL_law_24 (by decide) (fun _ => ?_) (fun h => absurd (by decide) h)
      refine lv_iconst (v := 1) hx hb dL_law_1500 (by decide) ?_
      refine va_forget (fun q hq => hS.2.2 q hq) ?_
      refine W.widen (k := 600000) (n := 7302250) (by decide) (by decide) ?_
      exact lw_ret hx hb hr hlocks dL_law_1501
    refine lv_aload_n hx hb dL_law_27 rfl (lv_at hl 3 rfl) ?_
    refine lv_iload_n hx hb dL_law_28 rfl (lv_at hl 0 rfl) ?_
    refine va_sld hx hb hX hbl hbA hS (z_in (by decide)) dL_law_29 ?_
    refine lv_bipush (v := 63) hx hb dL_law_30 (by decide) ?_
    refine lv_iand hx hb dL_law_32 ?_
    refine lv_topi (fun v ev => ?_)
    refine W.eq (g2 := F0 m 33 ls [.int v]) rfl ?_
    by_cases s_0 : v = 0
    · subst s_0
      refine lv_tableIn (off := 191) (tgt := 224) hx hb dL_law_33 (by decide) (by decide) rfl (by decide) ?_
      exact lc_0 hx hb hml hown hts hX hbl hPx hPm hKx hKm hD hS hl fin
    by_cases s_1 : v = 1
    · subst s_1
      refine lv_tableIn (off := 254) (tgt := 287) hx hb dL_law_33 (by decide) (by decide) rfl (by decide) ?_
      exact lc_1 hx hb hml hown hts hX hbl hPx hPm hKx hKm hD hS hl fin
    by_cases s_2 : v = 2
    · subst s_2
      refine lv_tableIn (off := 277) (tgt := 310) hx hb dL_law_33 (by decide) (by decide) rfl (by decide) ?_
      exact lc_2 hx hb hml hown hts hX hbl hPx hPm hKx hKm hD hS hl fin
    by_cases s_3 : v = 3
    · subst s_3
      refine lv_tableIn (off := 290) (tgt := 323) hx hb dL_law_33 (by decide) (by decide) rfl (by decide) ?_
      exact lc_3 hx hb hml hown hts hX hbl hPx hPm hKx hKm hD hS hl fin
    by_cases s_4 : v = 4
    · subst s_4
      refine lv_tableIn (off := 303) (tgt := 336) hx hb dL_law_33 (by decide) (by decide) rfl (by decide) ?_
      exact lc_4 hx hb hml hown hts hX hbl hPx hPm hKx hKm hD hS hl fin
    by_cases s_5 : v = 5
    · subst s_5
      refine lv_tableIn (off := 326) (tgt := 359) hx hb dL_law_33 (by decide) (by decide) rfl (by decide) ?_
      exact lc_5 hx hb hml hown hts hX hbl hPx hPm hKx hKm hD hS hl fin
    by_cases s_6 : v = 6
    · subst s_6
      refine lv_tableIn (off := 369) (tgt := 402) hx hb dL_law_33 (by decide) (by decide) rfl (by decide) ?_
      exact lc_6 hx hb hml hown hts hX hbl hPx hPm hKx hKm hD hS hl fin
    by_cases s_7 : v = 7
    · subst s_7
      refine lv_tableIn (off := 392) (tgt := 425) hx hb dL_law_33 (by decide) (by decide) rfl (by decide) ?_
      exact lc_7 hx hb hml hown hts hX hbl hPx hPm hKx hKm hD hS hl fin
    by_cases s_8 : v = 8
    · subst s_8
      refine lv_tableIn (off := 441) (tgt := 474) hx hb dL_law_33 (by decide) (by decide) rfl (by decide) ?_
      exact lc_8 hx hb hml hown hts hX hbl hPx hPm hKx hKm hD hS hl fin
    by_cases s_9 : v = 9
    · subst s_9
      refine lv_tableIn (off := 454) (tgt := 487) hx hb dL_law_33 (by decide) (by decide) rfl (by decide) ?_
      exact lc_9 hx hb hml hown hts hX hbl hPx hPm hKx hKm hD hS hl fin
    by_cases s_10 : v = 10
    · subst s_10
      refine lv_tableIn (off := 467) (tgt := 500) hx hb dL_law_33 (by decide) (by decide) rfl (by decide) ?_
      exact lc_10 hx hb hml hown hts hX hbl hPx hPm hKx hKm hD hS hl fin
    by_cases s_11 : v = 11
    · subst s_11
      refine lv_tableIn (off := 490) (tgt := 523) hx hb dL_law_33 (by decide) (by decide) rfl (by decide) ?_
      exact lc_11 hx hb hml hown hts hX hbl hPx hPm hKx hKm hD hS hl fin
    by_cases s_12 : v = 12
    · subst s_12
      refine lv_tableIn (off := 513) (tgt := 546) hx hb dL_law_33 (by decide) (by decide) rfl (by decide) ?_
      exact lc_12 hx hb hml hown hts hX hbl hPx hPm hKx hKm hD hS hl fin
    by_cases s_13 : v = 13
    · subst s_13
      refine lv_tableIn (off := 526) (tgt := 559) hx hb dL_law_33 (by decide) (by decide) rfl (by decide) ?_
      exact lc_13 hx hb hml hown hts hX hbl hPx hPm hKx hKm hD hS hl fin
    by_cases s_14 : v = 14
    · subst s_14
      refine lv_tableIn (off := 559) (tgt := 592) hx hb dL_law_33 (by decide) (by decide) rfl (by decide) ?_
      exact lc_14 hx hb hml hown hts hX hbl hPx hPm hKx hKm hD hS hl fin
    by_cases s_15 : v = 15
    · subst s_15
      refine lv_tableIn (off := 582) (tgt := 615) hx hb dL_law_33 (by decide) (by decide) rfl (by decide) ?_
      exact lc_15 hx hb hml hown hts hX hbl hPx hPm hKx hKm hD hS hl fin
    by_cases s_16 : v = 16
    · subst s_16
      refine lv_tableIn (off := 605) (tgt := 638) hx hb dL_law_33 (by decide) (by decide) rfl (by decide) ?_
      exact lc_16 hx hb hml hown hts hX hbl hPx hPm hKx hKm hD hS hl fin
    by_cases s_17 : v = 17
    · subst s_17
      refine lv_tableIn (off := 648) (tgt := 681) hx hb dL_law_33 (by decide) (by decide) rfl (by decide) ?_
      exact lc_17 hx hb hml hown hts hX hbl hPx hPm hKx hKm hD hS hl fin
    by_cases s_18 : v = 18
    · subst s_18
      refine lv_tableIn (off := 681) (tgt := 714) hx hb dL_law_33 (by decide) (by decide) rfl (by decide) ?_
      exact lc_18 hx hb hml hown hts hX hbl hPx hPm hKx hKm hD hS hl fin
    by_cases s_19 : v = 19
    · subst s_19
      refine lv_tableIn (off := 734) (tgt := 767) hx hb dL_law_33 (by decide) (by decide) rfl (by decide) ?_
      exact lc_19 hx hb hml hown hts hX hbl hPx hPm hKx hKm hD hS hl fin
    by_cases s_20 : v = 20
    · subst s_20
      refine lv_tableIn (off := 767) (tgt := 800) hx hb dL_law_33 (by decide) (by decide) rfl (by decide) ?_
      exact lc_20 hx hb hml hown hts hX hbl hPx hPm hKx hKm hD hS hl fin
    by_cases s_21 : v = 21
    · subst s_21
      refine lv_tableIn (off := 810) (tgt := 843) hx hb dL_law_33 (by decide) (by decide) rfl (by decide) ?_
      exact lc_21 hx hb hml hown hts hX hbl hPx hPm hKx hKm hD hS hl fin
    by_cases s_22 : v = 22
    · subst s_22
      refine lv_tableIn (off := 863) (tgt := 896) hx hb dL_law_33 (by decide) (by decide) rfl (by decide) ?_
      exact lc_22 hx hb hml hown hts hX hbl hPx hPm hKx hKm hD hS hl fin
    by_cases s_23 : v = 23
    · subst s_23
      refine lv_tableIn (off := 886) (tgt := 919) hx hb dL_law_33 (by decide) (by decide) rfl (by decide) ?_
      exact lc_23 hx hb hml hown hts hX hbl hPx hPm hKx hKm hD hS hl fin
    by_cases s_24 : v = 24
    · subst s_24
      refine lv_tableIn (off := 899) (tgt := 932) hx hb dL_law_33 (by decide) (by decide) rfl (by decide) ?_
      exact lc_24 hx hb hml hown hts hX hbl hPx hPm hKx hKm hD hS hl fin
    by_cases s_25 : v = 25
    · subst s_25
      refine lv_tableIn (off := 922) (tgt := 955) hx hb dL_law_33 (by decide) (by decide) rfl (by decide) ?_
      exact lc_25 hx hb hml hown hts hX hbl hPx hPm hKx hKm hD hS hl fin
    by_cases s_26 : v = 26
    · subst s_26
      refine lv_tableIn (off := 956) (tgt := 989) hx hb dL_law_33 (by decide) (by decide) rfl (by decide) ?_
      exact lc_26 hx hb hml hown hts hX hbl hPx hPm hKx hKm hD hS hl fin
    by_cases s_27 : v = 27
    · subst s_27
      refine lv_tableIn (off := 979) (tgt := 1012) hx hb dL_law_33 (by decide) (by decide) rfl (by decide) ?_
      exact lc_27 hx hb hml hown hts hX hbl hPx hPm hKx hKm hD hS hl fin
    by_cases s_28 : v = 28
    · subst s_28
      refine lv_tableIn (off := 1022) (tgt := 1055) hx hb dL_law_33 (by decide) (by decide) rfl (by decide) ?_
      exact lc_28 hx hb hml hown hts hX hbl hPx hPm hKx hKm hD hS hl fin
    by_cases s_29 : v = 29
    · subst s_29
      refine lv_tableIn (off := 1055) (tgt := 1088) hx hb dL_law_33 (by decide) (by decide) rfl (by decide) ?_
      exact lc_29 hx hb hml hown hts hX hbl hPx hPm hKx hKm hD hS hl fin
    by_cases s_30 : v = 30
    · subst s_30
      refine lv_tableIn (off := 1078) (tgt := 1111) hx hb dL_law_33 (by decide) (by decide) rfl (by decide) ?_
      exact lc_30 hx hb hml hown hts hX hbl hPx hPm hKx hKm hD hS hl fin
    by_cases s_31 : v = 31
    · subst s_31
      refine lv_tableIn (off := 1101) (tgt := 1134) hx hb dL_law_33 (by decide) (by decide) rfl (by decide) ?_
      exact lc_31 hx hb hml hown hts hX hbl hPx hPm hKx hKm hD hS hl fin
    by_cases s_32 : v = 32
    · subst s_32
      refine lv_tableIn (off := 1124) (tgt := 1157) hx hb dL_law_33 (by decide) (by decide) rfl (by decide) ?_
      exact lc_32 hx hb hml hown hts hX hbl hPx hPm hKx hKm hD hS hl fin
    by_cases s_33 : v = 33
    · subst s_33
      refine lv_tableIn (off := 1148) (tgt := 1181) hx hb dL_law_33 (by decide) (by decide) rfl (by decide) ?_
      exact lc_33 hx hb hml hown hts hX hbl hPx hPm hKx hKm hD hS hl fin
    by_cases s_34 : v = 34
    · subst s_34
      refine lv_tableIn (off := 1191) (tgt := 1224) hx hb dL_law_33 (by decide) (by decide) rfl (by decide) ?_
      exact lc_34 hx hb hml hown hts hX hbl hPx hPm hKx hKm hD hS hl fin
    by_cases s_35 : v = 35
    · subst s_35
      refine lv_tableIn (off := 1234) (tgt := 1267) hx hb dL_law_33 (by decide) (by decide) rfl (by decide) ?_
      exact lc_35 hx hb hml hown hts hX hbl hPx hPm hKx hKm hD hS hl fin
    by_cases s_36 : v = 36
    · subst s_36
      refine lv_tableIn (off := 1247) (tgt := 1280) hx hb dL_law_33 (by decide) (by decide) rfl (by decide) ?_
      exact lc_36 hx hb hml hown hts hX hbl hPx hPm hKx hKm hD hS hl fin
    by_cases s_37 : v = 37
    · subst s_37
      refine lv_tableIn (off := 1270) (tgt := 1303) hx hb dL_law_33 (by decide) (by decide) rfl (by decide) ?_
      exact lc_37 hx hb hml hown hts hX hbl hPx hPm hKx hKm hD hS hl fin
    by_cases s_38 : v = 38
    · subst s_38
      refine lv_tableIn (off := 1313) (tgt := 1346) hx hb dL_law_33 (by decide) (by decide) rfl (by decide) ?_
      exact lc_38 hx hb hml hown hts hX hbl hPx hPm hKx hKm hD hS hl fin
    by_cases s_39 : v = 39
    · subst s_39
      refine lv_tableIn (off := 1346) (tgt := 1379) hx hb dL_law_33 (by decide) (by decide) rfl (by decide) ?_
      exact lc_39 hx hb hml hown hts hX hbl hPx hPm hKx hKm hD hS hl fin
    by_cases s_40 : v = 40
    · subst s_40
      refine lv_tableIn (off := 1379) (tgt := 1412) hx hb dL_law_33 (by decide) (by decide) rfl (by decide) ?_
      exact lc_40 hx hb hml hown hts hX hbl hPx hPm hKx hKm hD hS hl fin
    by_cases s_41 : v = 41
    · subst s_41
      refine lv_tableIn (off := 1392) (tgt := 1425) hx hb dL_law_33 (by decide) (by decide) rfl (by decide) ?_
      exact lc_41 hx hb hml hown hts hX hbl hPx hPm hKx hKm hD hS hl fin
    by_cases s_42 : v = 42
    · subst s_42
      refine lv_tableIn (off := 1415) (tgt := 1448) hx hb dL_law_33 (by decide) (by decide) rfl (by decide) ?_
      exact lc_42 hx hb hml hown hts hX hbl hPx hPm hKx hKm hD hS hl fin
    by_cases s_43 : v = 43
    · subst s_43
      refine lv_tableIn (off := 1438) (tgt := 1471) hx hb dL_law_33 (by decide) (by decide) rfl (by decide) ?_
      exact lc_43 hx hb hml hown hts hX hbl hPx hPm hKx hKm hD hS hl fin
    have hout : v.toInt < 0 ∨ 43 < v.toInt := by
      simp only [← Int32.toInt_inj, ti_0, ti_1, ti_2, ti_3, ti_4, ti_5, ti_6, ti_7, ti_8, ti_9, ti_10, ti_11, ti_12, ti_13, ti_14, ti_15, ti_16, ti_17, ti_18, ti_19, ti_20, ti_21, ti_22, ti_23, ti_24, ti_25, ti_26, ti_27, ti_28, ti_29, ti_30, ti_31, ti_32, ti_33, ti_34, ti_35, ti_36, ti_37, ti_38, ti_39, ti_40, ti_41, ti_42, ti_43] at s_0 s_1 s_2 s_3 s_4 s_5 s_6 s_7 s_8 s_9 s_10 s_11 s_12 s_13 s_14 s_15 s_16 s_17 s_18 s_19 s_20 s_21 s_22 s_23 s_24 s_25 s_26 s_27 s_28 s_29 s_30 s_31 s_32 s_33 s_34 s_35 s_36 s_37 s_38 s_39 s_40 s_41 s_42 s_43
      omega
    refine lv_tableOut (tgt := 1494) hx hb dL_law_33 hout (by decide) ?_
    exact fin _ _ _ hS (lv_sub hl [0, 3] rfl)
