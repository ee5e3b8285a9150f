/-! the calls that leave the game as it was -/
def cE (E : List Nat) : Bool := ([3, 4, 5, 9, 10, 93, 22, 46, 58] : List Nat).all (fun q => !(E.contains q)) && (gO22 E && (gO46 E && gO58 E))
theorem C7.ex {A : AA} {E : List Nat} {σ σ' : Sg} (h : C7 A σ) (hf : exc E σ σ') (hE : cE E = true) : C7 A σ' := by
  unfold cE at hE
  simp only [Bool.and_eq_true] at hE
  obtain ⟨e0, e1, e2, e3⟩ := hE
  have n : ∀ q, q ∈ ([3, 4, 5, 9, 10, 93, 22, 46, 58] : List Nat) → E.contains q = false := fun q hq => by
    have := List.all_eq_true.mp e0 q hq
    simpa using this
  obtain ⟨h1, h2, h3, h4, h5⟩ := h
  exact ⟨h1.fr hf (n 3 (by decide)) (n 4 (by decide)) (n 5 (by decide)) (n 9 (by decide)) (n 10 (by decide)), h2.fr hf e1 (n 22 (by decide)), h3.fr hf e2 (n 46 (by decide)), h4.fr hf e3 (n 58 (by decide)), (hf 93 (by decide) (n 93 (by decide)) 2).trans h5⟩
theorem exc.cS {E : List Nat} {σ σ' : Sg} (h : exc E σ σ') (hE : E.all (fun q => Nat.ble 97 q || ([81, 82, 83, 84, 85, 86, 87, 88] : List Nat).contains q) = true) : cS σ σ' := fun q hq hA j => h q (by omega) (by
  cases hc : E.contains q with
  | false => rfl
  | true =>
    have := List.all_eq_true.mp hE q (by simpa using hc)
    rw [hA, Bool.or_false] at this
    have := Nat.le_of_ble_eq_true this
    omega) j
def rE (E : List Nat) : Bool := ([106, 107, 108, 109, 110, 111, 125, 126, 127, 152, 153, 154, 155, 156, 157] : List Nat).all (fun q => !(E.contains q))
theorem rO_of {lv : Nat} {E : List Nat} {σ σ' : Sg} (h : exc E σ σ') (hE : rE E = true) (f18 : σ'.1 97 18 = σ.1 97 18) (f45 : σ'.1 97 45 = σ.1 97 45) (f47 : σ'.1 97 47 = σ.1 97 47) (f48 : σ'.1 97 48 = σ.1 97 48) (f86 : σ'.1 97 86 = σ.1 97 86) : rO lv σ σ' := by
  have n : ∀ q, q ∈ ([106, 107, 108, 109, 110, 111, 125, 126, 127, 152, 153, 154, 155, 156, 157] : List Nat) → ∀ j, σ'.1 q j = σ.1 q j := fun q hq j => h q (by revert q; decide) (by
    have := List.all_eq_true.mp hE q hq
    simpa using this) j
  intro c j hc
  rcases hc with ⟨⟨a, b⟩, -⟩ | ⟨a, -⟩ | ⟨a, b⟩ | ⟨a, b⟩ | ⟨rfl, a⟩
  · rcases (show c = 106 ∨ c = 107 ∨ c = 108 ∨ c = 109 by omega) with rfl | rfl | rfl | rfl
    · exact n 106 (by decide) j
    · exact n 107 (by decide) j
    · exact n 108 (by decide) j
    · exact n 109 (by decide) j
  · rcases a with rfl | rfl
    · exact n 110 (by decide) j
    · exact n 111 (by decide) j
  · rcases (show c = 125 ∨ c = 126 ∨ c = 127 by omega) with rfl | rfl | rfl
    · exact n 125 (by decide) j
    · exact n 126 (by decide) j
    · exact n 127 (by decide) j
  · rcases (show c = 152 ∨ c = 153 ∨ c = 154 ∨ c = 155 ∨ c = 156 ∨ c = 157 by omega) with rfl | rfl | rfl | rfl | rfl | rfl
    · exact n 152 (by decide) j
    · exact n 153 (by decide) j
    · exact n 154 (by decide) j
    · exact n 155 (by decide) j
    · exact n 156 (by decide) j
    · exact n 157 (by decide) j
  · rcases a with rfl | rfl | rfl | rfl | rfl
    · exact f18
    · exact f45
    · exact f47
    · exact f48
    · exact f86
theorem R7.lv {A : AA} {σ : Sg} (h : R7 A σ) : ∃ lv, lv < 2 ∧ σ.1 97 18 = nI lv := by
  obtain ⟨⟨lv, hl, -⟩, -⟩ := h
  exact ⟨lv, hl.1, hl.2.1⟩
section Ys
variable {A : AA} {n mi : Nat} {av : List Value} {x w : Int32} {σ σ1 : Sg} {v : Option Value}
/-- a call of the class that only asks -/
theorem x_ask (h : RCx PRG n mi av σ v σ1) (hm : SXq.contains mi = true) (hm2 : SXqm.contains mi = true) (ha : nZs ZXq av = true) (hC : C7 A σ) : C7 A σ1 ∧ mS σ σ1 := by
  have f := frXq h hm hm2 ha
  exact ⟨hC.ex f rfl, f.mS rfl⟩
theorem x_try (h : RCx PRG n mi av σ v σ1) (hm : STr.contains mi = true) (hm2 : STrm.contains mi = true) (ha : nZs ZTr av = true) : exc ETr σ σ1 := frTr h hm hm2 ha
/-- a call of the reference that only asks -/
theorem m_ask {lv : Nat} (h : RCx PRG n mi av σ v σ1) (hm : SQr.contains mi = true) (hm2 : SQrm.contains mi = true) (hm3 : SQ2.contains mi = true) (ha : nZs ZQr av = true) : rO lv σ σ1 ∧ cS σ σ1 := by
  have f := frQr h hm hm2 ha
  have fl : ∀ k, nfS PRG SQ2 12 k = true → σ1.1 97 k = σ.1 97 k := fun k hk => h.fldQ (q0 := 97) (c := 12) (k0 := k) rfl hk hm3
  exact ⟨rO_of f rfl (fl 18 nfQ218) (fl 45 nfQ245) (fl 47 nfQ247) (fl 48 nfQ248) (fl 86 nfQ286), f.cS rfl⟩
theorem m_askR (hv : V7 A) (hR : R7 A σ) (h : RCx PRG n mi av σ v σ1) (hm : SQr.contains mi = true) (hm2 : SQrm.contains mi = true) (hm3 : SQ2.contains mi = true) (ha : nZs ZQr av = true) : R7 A σ1 ∧ cS σ σ1 := by
  obtain ⟨lv, h1, h2⟩ := hR.lv
  obtain ⟨a, b⟩ := m_ask (lv := lv) h hm hm2 hm3 ha
  exact ⟨hR.ro hv h2 h1 a, b⟩
/-! differs: the class -/
def ETa : List Nat := [34, 35, 36, 37, 38, 39, 40, 41, 42, 43, 44, 45] ++ ETr
theorem cp34 (h : RCx PRG n 67 [.ref 34, .ref 22] σ none σ1) : exc ETr σ σ1 := by
  have loop : ∀ d n k (σ' : Sg), exc ETr σ σ' → Pl PRG n d 67 38 [(0, .ref 34), (1, .ref 22), (2, .int k)] [] σ' (fun _ s' => exc ETr σ s') := by
    intro d n
    induction n using Nat.strongRecOn with
    | _ n ih =>
      intro k σ' hf
      exact Pl.pos (fun n1 h1 => p_67_b34_22_38 σ' k ⟨fun _ => hf, fun _ _ σ2 h2 => ih n1 (by omega) _ σ2 (hf.trans (x_try h2 (by decide) (by decide) rfl))⟩)
  exact h.by (Q := fun _ s' => exc ETr σ s') (fun n d => p_67_b34_22_0 σ (fun σ2 h2 σ3 h3 => loop d n 0 σ3 ((x_try h2 (by decide) (by decide) rfl).trans (x_try h3 (by decide) (by decide) rfl))))
theorem x_differs (h : RCx PRG n 161 [.ref 0, .int x] σ v σ1) : exc ETr σ σ1 := by
  have loop : ∀ d n k (σ' : Sg), exc ETr σ σ' → Pl PRG n d 161 25 [(0, .ref 0), (1, .int x), (3, .int k)] [] σ' (fun _ s' => exc ETr σ s') := by
    intro d n
    induction n using Nat.strongRecOn with
    | _ n ih =>
      intro k σ' hf
      refine Pl.pos (fun n1 h1 => p_161_25 σ' x k ⟨fun _ => Pl.pos (fun n2 _ => p_161_101 σ' hf), fun _ => ⟨fun _ => Pl.pos (fun n2 _ => p_161_101 σ' hf), fun _ w2 σ2 h2 w4 σ4 h4 w6 σ6 h6 => ?_⟩⟩)
      have f6 := ((hf.trans (x_try h2 (by decide) (by decide) rfl)).trans (x_try h4 (by decide) (by decide) rfl)).trans (x_try h6 (by decide) (by decide) rfl)
      exact ⟨fun _ σ8 h8 => ih n1 (by omega) _ σ8 (f6.trans (x_try h8 (by decide) (by decide) rfl)), fun _ => f6⟩
  exact h.by (Q := fun _ s' => exc ETr σ s') (fun n d => p_161_0 σ x (fun w2 σ2 h2 => by
    have f2 := x_try h2 (by decide) (by decide) rfl
    exact ⟨fun _ σ3 h3 => loop d n 0 σ3 (f2.trans (cp34 h3)), fun _ => f2⟩))
theorem x_tries (h : exc ETr σ σ1) (hC : C7 A σ) : C7 A σ1 ∧ mS σ σ1 := ⟨hC.ex h rfl, h.mS rfl⟩
/-! line, differs: the reference -/
/-- as it was, but for the cards behind -/
def rT (lv m : Nat) (σ0 σ : Sg) : Prop := (∀ c j, rIn lv c j → ¬ ((c = 126 ∨ c = 127) ∧ m ≤ j) → ¬ (c = 97 ∧ j = 48) → σ.1 c j = σ0.1 c j) ∧ (∃ k, m ≤ k ∧ k ≤ 1000 ∧ σ.1 97 48 = nI k) ∧ cS σ0 σ
theorem rT.ask {lv m : Nat} {σ0 : Sg} (hT : rT lv m σ0 σ) (h : RCx PRG n mi av σ v σ1) (hm : SQr.contains mi = true) (hm2 : SQrm.contains mi = true) (hm3 : SQ2.contains mi = true) (ha : nZs ZQr av = true) : rT lv m σ0 σ1 := by
  obtain ⟨a, b⟩ := m_ask (lv := lv) h hm hm2 hm3 ha
  obtain ⟨t1, ⟨k, t2, t3, t4⟩, t5⟩ := hT
  exact ⟨fun c j hc h1 h2 => (a c j hc).trans (t1 c j hc h1 h2), ⟨k, t2, t3, (a 97 48 (Or.inr (Or.inr (Or.inr (Or.inr ⟨rfl, by omega⟩))))).trans t4⟩, t5.trans b⟩
theorem rT.plays {lv m : Nat} {σ0 : Sg} {y : Int32} (hT : rT lv m σ0 σ) (h : RCx PRG n 235 [.ref 97, .int y, .int x] σ v σ1) : rT lv m σ0 σ1 := by
  obtain ⟨t1, ⟨k, t2, t3, t4⟩, t5⟩ := hT
  refine h.by (Q := fun _ s' => rT lv m σ0 s') (fun n d => p_235_0 σ y x (fun hin _ => ?_))
  rw [t4] at hin
  have hk := inR_lo hin
  rw [nI_toInt (by omega)] at hk
  rw [t4, nI_clamp (by omega), nI_1]
  refine ⟨fun c j hc h1 h2 => ?_, ⟨k + 1, by omega, by omega, s1_on⟩, ((t5.put (by decide)).put (by decide)).put (by decide)⟩
  rw [s1_off (by omega), s1_off (by omega), s1_off (by omega)]
  exact t1 c j hc h1 h2
theorem rT.back {A : AA} {lv m : Nat} {σ0 : Sg} (hv : V7 A) (hR : R7 A σ0) (h18 : σ0.1 97 18 = nI lv) (hl2 : lv < 2) (hm : m ≤ 1000) (h48 : σ0.1 97 48 = nI m) (hg : ∀ g, A.2.1 = some g → g.2.2.2.2 = m) (hT : rT lv m σ0 σ) : R7 A (s1 σ 97 48 (nI m)) ∧ cS σ0 (s1 σ 97 48 (nI m)) := by
  obtain ⟨t1, -, t5⟩ := hT
  have hf : ∀ c j, rIn lv c j → ¬ ((c = 126 ∨ c = 127) ∧ m ≤ j) → (s1 σ 97 48 (nI m)).1 c j = σ0.1 c j := fun c j hc hn => by
    by_cases e : c = 97 ∧ j = 48
    · obtain ⟨rfl, rfl⟩ := e
      rw [s1_on, h48]
    · rw [s1_off e]; exact t1 c j hc hn e
  refine ⟨?_, t5.put (by decide)⟩
  -- the cards behind do not count
  let σ2 : Sg := (fun c j => if (c = 126 ∨ c = 127) ∧ m ≤ j then σ0.1 c j else (s1 σ 97 48 (nI m)).1 c j, (s1 σ 97 48 (nI m)).2)
  have h2 : rO lv σ0 σ2 := fun c j hc => by
    show (if _ then _ else _) = _
    by_cases e : (c = 126 ∨ c = 127) ∧ m ≤ j
    · rw [if_pos e]
    · rw [if_neg e]; exact hf c j hc e
  have hR2 := hR.ro hv h18 hl2 h2
  have hs : ∀ c j, ¬ ((c = 126 ∨ c = 127) ∧ m ≤ j) → (s1 σ 97 48 (nI m)).1 c j = σ2.1 c j := fun c j hn => (if_neg hn).symm
  obtain ⟨r1, r2, r3, r4, r5⟩ := hR2
  refine ⟨r1.keep (fun q hq j => hs q j (by omega)) (hs 97 18 (by omega)), ?_, r3.keep (le16' hv.1 hv.2.2.1) (fun c j hc => hs c j (by unfold hIn at hc; omega)), r4.keep (le16' hv.1 hv.2.2.2.1) (fun c j hc => hs c j (by unfold hIn at hc; omega)), (hs 97 86 (by omega)).trans r5⟩
  cases hgo : A.2.1 with
  | none =>
    rw [hgo] at r2
    exact ⟨(hs 97 45 (by omega)).trans r2.1, (hs 97 48 (by omega)).trans r2.2⟩
  | some g =>
    rw [hgo] at r2
    have e := hg g hgo
    exact ⟨(hs 97 45 (by omega)).trans r2.1, (hs 97 47 (by omega)).trans r2.2.1, (hs 97 48 (by omega)).trans r2.2.2.1, fun p hp => (hs 125 p (by omega)).trans (r2.2.2.2.1 p hp), fun i hi => ⟨(hs 126 i (by omega)).trans (r2.2.2.2.2 i hi).1, (hs 127 i (by omega)).trans (r2.2.2.2.2 i hi).2⟩⟩
theorem rT.start {lv m : Nat} (hm : m ≤ 1000) (h48 : σ.1 97 48 = nI m) : rT lv m σ σ := ⟨fun _ _ _ _ _ => rfl, ⟨m, Nat.le_refl _, hm, h48⟩, cS.refl σ⟩
/-- how many cards are played -/
theorem R7.m (hv : V7 A) (hR : R7 A σ) : ∃ m, m ≤ 1000 ∧ σ.1 97 48 = nI m ∧ ∀ g, A.2.1 = some g → g.2.2.2.2 = m := by
  have r2 := hR.2.1
  cases hg : A.2.1 with
  | none => rw [hg] at r2; exact ⟨0, by decide, r2.2, fun g e => (by cases e)⟩
  | some g =>
    rw [hg] at r2
    have hm := le16' hv.1 hv.2.1 g hg
    exact ⟨g.2.2.2.2, by omega, r2.2.2.1, fun g' e => by cases e; rfl⟩
theorem m_line (hv : V7 A) (hR : R7 A σ) (h : RCx PRG n 286 [.ref 97, .int x] σ v σ1) : R7 A σ1 ∧ cS σ σ1 := by
  obtain ⟨lv, hl2, h18⟩ := hR.lv
  obtain ⟨m, hm, h48, hg⟩ := hR.m hv
  have main : ∀ d n, (∀ x3 x4 (σ' : Sg), rT lv m σ σ' → Pl PRG n d 286 36 [(0, .ref 97), (1, .int x), (2, .int (nI m)), (3, .int x3), (4, .int x4)] [] σ' (fun _ s' => R7 A s' ∧ cS σ s')) ∧ (∀ x3 x4 x5 x6 x7 (σ' : Sg), rT lv m σ σ' → Pl PRG n d 286 59 [(0, .ref 97), (1, .int x), (2, .int (nI m)), (3, .int x3), (4, .int x4), (5, .int x5), (6, .int x6), (7, .int x7)] [] σ' (fun _ s' => R7 A s' ∧ cS σ s')) := by
    intro d n
    induction n using Nat.strongRecOn with
    | _ n ih =>
      refine ⟨fun x3 x4 σ' hT => Pl.pos (fun n1 h1 => p_286_36 σ' x _ x3 x4 ⟨fun _ => hT.back hv hR h18 hl2 hm h48 hg, fun _ w2 σ2 h2 w4 σ4 h4 => ?_⟩), fun x3 x4 x5 x6 x7 σ' hT => Pl.pos (fun n1 h1 => p_286_59 σ' x _ x3 x4 x5 x6 x7 (fun w2 σ2 h2 => ?_))⟩
      · exact (ih n1 (by omega)).2 (-1) x4 w2 w4 0 σ4 ((hT.ask h2 (by decide) (by decide) (by decide) rfl).ask h4 (by decide) (by decide) (by decide) rfl)
      · have k2 := hT.ask h2 (by decide) (by decide) (by decide) rfl
        have at104 : ∀ x3' (σ3 : Sg) n2, n2 < n → rT lv m σ σ3 → Pl PRG n2 d 286 104 [(0, .ref 97), (1, .int x), (2, .int (nI m)), (3, .int x3'), (4, .int x4)] [] σ3 (fun _ s' => R7 A s' ∧ cS σ s') := fun x3' σ3 n2 h2' k3 => Pl.pos (fun n3 h3 => p_286_104 σ3 x _ x3' x4 (fun w5 σ5 h5 w7 σ7 h7 => Pl.less ((ih n3 (by omega)).1 x3' _ σ7 ((k3.ask h5 (by decide) (by decide) (by decide) rfl).plays h7)) (by omega)))
        have at98 : ∀ x3' (σ3 : Sg) n2, n2 < n → rT lv m σ σ3 → Pl PRG n2 d 286 98 [(0, .ref 97), (1, .int x), (2, .int (nI m)), (3, .int x3'), (4, .int x4), (5, .int x5), (6, .int x6), (7, .int x7)] [] σ3 (fun _ s' => R7 A s' ∧ cS σ s') := fun x3' σ3 n2 h2' k3 => Pl.pos (fun n3 h3 => p_286_98 σ3 x _ x3' x4 x5 x6 x7 (Pl.less ((ih n3 (by omega)).2 x3' x4 x5 x6 _ σ3 k3) (by omega)))
        exact ⟨fun _ => at104 x3 σ2 n1 (by omega) k2, fun _ => ⟨fun _ => ⟨fun _ w4 σ4 h4 => ⟨fun _ => at98 x7 σ4 n1 (by omega) (k2.ask h4 (by decide) (by decide) (by decide) rfl), fun _ => at98 x3 σ4 n1 (by omega) (k2.ask h4 (by decide) (by decide) (by decide) rfl)⟩, fun _ => at98 x3 σ2 n1 (by omega) k2⟩, fun _ => at104 x3 σ2 n1 (by omega) k2⟩⟩
  refine h.by (Q := fun _ s' => R7 A s' ∧ cS σ s') (fun n d => p_286_0 σ x ⟨fun _ => Pl.pos (fun n2 _ => p_286_24 σ ⟨hR, cS.refl σ⟩), fun _ => ⟨fun _ => Pl.pos (fun n2 _ => p_286_24 σ ⟨hR, cS.refl σ⟩), fun _ w2 σ2 h2 => ?_⟩⟩)
  have k2 : rT lv m σ σ2 := (rT.start hm h48).ask h2 (by decide) (by decide) (by decide) rfl
  have a2 := m_askR hv hR h2 (by decide) (by decide) (by decide) rfl
  have e2 : σ2.1 97 48 = nI m := by
    obtain ⟨a, -⟩ := m_ask (lv := lv) h2 (by decide) (by decide) (by decide) rfl
    exact (a 97 48 (Or.inr (Or.inr (Or.inr (Or.inr ⟨rfl, by omega⟩))))).trans h48
  rw [e2]
  exact ⟨fun _ => (main d n).1 (-1) 0 σ2 k2, fun _ => Pl.pos (fun n2 _ => p_286_24 σ2 a2)⟩
theorem m_differs (hv : V7 A) (hR : R7 A σ) (h : RCx PRG n 299 [.ref 97, .int x] σ v σ1) : R7 A σ1 ∧ cS σ σ1 := by
  obtain ⟨lv, hl2, h18⟩ := hR.lv
  obtain ⟨m, hm, h48, hg⟩ := hR.m hv
  have e48 : ∀ {n mi av v} {σ' σ2 : Sg}, RCx PRG n mi av σ' v σ2 → SQr.contains mi = true → SQrm.contains mi = true → SQ2.contains mi = true → nZs ZQr av = true → σ2.1 97 48 = σ'.1 97 48 := fun h a b c d => by
    obtain ⟨q, -⟩ := m_ask (lv := lv) h a b c d
    exact q 97 48 (Or.inr (Or.inr (Or.inr (Or.inr ⟨rfl, by omega⟩))))
  have fin : ∀ d n x3 (σ' : Sg), rT lv m σ σ' → Pl PRG n d 299 91 [(0, .ref 97), (2, .int (nI m)), (3, .int x3)] [] σ' (fun _ s' => R7 A s' ∧ cS σ s') := fun d n x3 σ' hT => Pl.pos (fun n1 _ => p_299_91 σ' _ x3 (hT.back hv hR h18 hl2 hm h48 hg))
  have loop : ∀ d n x3 (σ' : Sg), rT lv m σ σ' → Pl PRG n d 299 28 [(0, .ref 97), (1, .int x), (2, .int (nI m)), (3, .int x3)] [] σ' (fun _ s' => R7 A s' ∧ cS σ s') := by
    intro d n
    induction n using Nat.strongRecOn with
    | _ n ih =>
      intro x3 σ' hT
      refine Pl.pos (fun n1 h1 => p_299_28 σ' x _ x3 ⟨fun _ w2 σ2 h2 => ?_, fun _ => fin d n1 x3 σ' hT⟩)
      have k2 := hT.ask h2 (by decide) (by decide) (by decide) rfl
      refine ⟨fun _ => fin d n1 x3 σ2 k2, fun _ σ4 h4 w5 σ5 h5 w7 σ7 h7 => ?_⟩
      have k7 := ((k2.ask h4 (by decide) (by decide) (by decide) rfl).ask h5 (by decide) (by decide) (by decide) rfl).ask h7 (by decide) (by decide) (by decide) rfl
      exact ⟨fun _ w9 σ9 h9 w11 σ11 h11 => Pl.pos (fun n2 h2' => p_299_88 σ11 x _ x3 (ih n2 (by omega) x3 σ11 ((k7.ask h9 (by decide) (by decide) (by decide) rfl).plays h11))), fun _ => Pl.pos (fun n2 h2' => p_299_88 σ7 x _ _ (ih n2 (by omega) _ σ7 k7))⟩
  refine h.by (Q := fun _ s' => R7 A s' ∧ cS σ s') (fun n d => p_299_0 σ x (fun w2 σ2 h2 _ => ?_))
  have k2 : rT lv m σ σ2 := (rT.start hm h48).ask h2 (by decide) (by decide) (by decide) rfl
  have a2 := m_askR hv hR h2 (by decide) (by decide) (by decide) rfl
  refine ⟨fun _ => a2, fun _ w4 σ4 h4 _ => ?_⟩
  have k4 : rT lv m σ σ4 := k2.ask h4 (by decide) (by decide) (by decide) rfl
  have a4 := m_askR hv a2.1 h4 (by decide) (by decide) (by decide) rfl
  rw [e48 h4 (by decide) (by decide) (by decide) rfl, e48 h2 (by decide) (by decide) (by decide) rfl, h48]
  exact ⟨fun _ => ⟨a4.1, a2.2.trans a4.2⟩, fun _ => loop d n (-3) σ4 k4⟩
end Ys
