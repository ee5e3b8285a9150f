/-! read, the reference: what stays, what is told -/
/-- the living side's laws, the games, the slots, the books -/
def rIn (lv c j : Nat) : Prop := ((106 ≤ c ∧ c ≤ 109) ∧ j = lv) ∨ ((c = 110 ∨ c = 111) ∧ 6 * lv ≤ j ∧ j < 6 * lv + 6) ∨ (125 ≤ c ∧ c ≤ 127) ∨ (152 ≤ c ∧ c ≤ 157) ∨ (c = 97 ∧ (j = 18 ∨ j = 45 ∨ j = 47 ∨ j = 48 ∨ j = 86))
def rO (lv : Nat) (σ σ' : Sg) : Prop := ∀ c j, rIn lv c j → σ'.1 c j = σ.1 c j
theorem rO.refl {lv : Nat} (σ : Sg) : rO lv σ σ := fun _ _ _ => rfl
theorem rO.trans {lv : Nat} {σ σ1 σ2 : Sg} (h : rO lv σ σ1) (h' : rO lv σ1 σ2) : rO lv σ σ2 := fun c j hc => (h' c j hc).trans (h c j hc)
theorem rO.put {lv c j : Nat} {y : Int32} {σ σ1 : Sg} (h : rO lv σ σ1) (hc : ¬ rIn lv c j) : rO lv σ (s1 σ1 c j y) := fun c' j' h' => by
  rw [s1_off (fun e => hc (by rw [← e.1, ← e.2]; exact h'))]
  exact h c' j' h'
theorem rO.put2 {lv c j : Nat} {y : Int64} {σ σ1 : Sg} (h : rO lv σ σ1) : rO lv σ (s2 σ1 c j y) := h
theorem R7.ro {A : AA} {lv : Nat} {σ σ' : Sg} (hv : V7 A) (h : R7 A σ) (hlv : σ.1 97 18 = nI lv) (hl2 : lv < 2) (hf : rO lv σ σ') : R7 A σ' := by
  obtain ⟨⟨lv', ⟨h1, h2, h3, h4, h5⟩, hc, hk⟩, r2, r3, r4, r5⟩ := h
  have el : lv' = lv := (nI_eq (by omega) (by omega)).mp (by rw [← h2, hlv])
  subst el
  have hnc := hv.1.2
  have i106 : ∀ c, 106 ≤ c → c ≤ 109 → rIn lv' c lv' := fun c a b => Or.inl ⟨⟨a, b⟩, rfl⟩
  have i97 : ∀ j, j = 18 ∨ j = 45 ∨ j = 47 ∨ j = 48 ∨ j = 86 → rIn lv' 97 j := fun j hj => Or.inr (Or.inr (Or.inr (Or.inr ⟨rfl, hj⟩)))
  refine ⟨⟨lv', ⟨h1, (hf 97 18 (i97 18 (by omega))).trans h2, (hf 106 lv' (i106 106 (by omega) (by omega))).trans h3, (hf 107 lv' (i106 107 (by omega) (by omega))).trans h4, ?_⟩, (hf 109 lv' (i106 109 (by omega) (by omega))).trans hc, fun k hk' => ⟨(hf 110 _ (Or.inr (Or.inl ⟨Or.inl rfl, by omega, by omega⟩))).trans (hk k hk').1, (hf 111 _ (Or.inr (Or.inl ⟨Or.inr rfl, by omega, by omega⟩))).trans (hk k hk').2⟩⟩, r2.keep (fun q hq j => hf q j (Or.inr (Or.inr (Or.inl (by omega))))) (hf 97 45 (i97 45 (by omega))) (hf 97 47 (i97 47 (by omega))) (hf 97 48 (i97 48 (by omega))), r3.keep (le16' hv.1 hv.2.2.1) (fun c j hc => hf c j (Or.inr (Or.inr (Or.inr (Or.inl (by unfold hIn at hc; omega)))))), r4.keep (le16' hv.1 hv.2.2.2.1) (fun c j hc => hf c j (Or.inr (Or.inr (Or.inr (Or.inl (by unfold hIn at hc; omega)))))), (hf 97 86 (i97 86 (by omega))).trans r5⟩
  rw [hf 106 lv' (i106 106 (by omega) (by omega)), hf 108 lv' (i106 108 (by omega) (by omega))]
  exact h5
section Ro
variable {lv sd n : Nat} {σ σ1 : Sg} {v : Option Value}
theorem frM {mi : Nat} {av : List Value} (h : RCx PRG n mi av σ v σ1) (hm : SMr.contains mi = true) (ha : nZs ZMr av = true) : rO lv σ σ1 ∧ σ1.1 97 19 = σ.1 97 19 ∧ ∀ j, σ1.1 109 j = σ.1 109 j := by
  have hb := h.bits gGMr gAMr bSMr hm ha
  have fl : ∀ k, nfS PRG SMr 12 k = true → σ1.1 97 k = σ.1 97 k := fun k hk => h.fldQ (q0 := 97) (c := 12) (k0 := k) rfl hk hm
  refine ⟨fun c j hc => ?_, fl 19 nfMr19, fun j => hb 109 rfl j⟩
  rcases hc with ⟨⟨a, b⟩, -⟩ | ⟨a, -⟩ | ⟨a, b⟩ | ⟨a, b⟩ | ⟨rfl, a⟩
  · rcases (show c = 106 ∨ c = 107 ∨ c = 108 ∨ c = 109 by omega) with rfl | rfl | rfl | rfl
    · exact hb 106 rfl j
    · exact hb 107 rfl j
    · exact hb 108 rfl j
    · exact hb 109 rfl j
  · rcases a with rfl | rfl
    · exact hb 110 rfl j
    · exact hb 111 rfl j
  · rcases (show c = 125 ∨ c = 126 ∨ c = 127 by omega) with rfl | rfl | rfl
    · exact hb 125 rfl j
    · exact hb 126 rfl j
    · exact hb 127 rfl j
  · rcases (show c = 152 ∨ c = 153 ∨ c = 154 ∨ c = 155 ∨ c = 156 ∨ c = 157 by omega) with rfl | rfl | rfl | rfl | rfl | rfl
    · exact hb 152 rfl j
    · exact hb 153 rfl j
    · exact hb 154 rfl j
    · exact hb 155 rfl j
    · exact hb 156 rfl j
    · exact hb 157 rfl j
  · rcases a with rfl | rfl | rfl | rfl | rfl
    · exact fl 18 nfMr18
    · exact fl 45 nfMr45
    · exact fl 47 nfMr47
    · exact fl 48 nfMr48
    · exact fl 86 nfMr86
/-- the side that is read, how many customs it has -/
def rS (lv sd c : Nat) (σ0 σ : Sg) : Prop := rO lv σ0 σ ∧ σ.1 97 19 = nI sd ∧ σ.1 109 sd = nI c
theorem rS.call {mi c : Nat} {av : List Value} {σ0 : Sg} (hS : rS lv sd c σ0 σ) (h : RCx PRG n mi av σ v σ1) (hm : SMr.contains mi = true) (ha : nZs ZMr av = true) : rS lv sd c σ0 σ1 := by
  obtain ⟨a, b, e⟩ := frM (lv := lv) h hm ha
  exact ⟨hS.1.trans a, b.trans hS.2.1, (e sd).trans hS.2.2⟩
theorem rS.put {c q j : Nat} {y : Int32} {σ0 : Sg} (hS : rS lv sd c σ0 σ) (hq : ¬ rIn lv q j) (h19 : ¬ (q = 97 ∧ j = 19)) (h109 : ¬ (q = 109 ∧ j = sd)) : rS lv sd c σ0 (s1 σ q j y) := ⟨hS.1.put hq, by rw [s1_off (by omega)]; exact hS.2.1, by rw [s1_off (by omega)]; exact hS.2.2⟩
theorem tl202 {c : Nat} {σ0 : Sg} (h : RCx PRG n 202 [.ref 97] σ none σ1) (hl : lv < 2 ∧ sd < 2 ∧ ¬ lv = sd) (hc : c ≤ 5) (hS : rS lv sd c σ0 σ) : ∃ c', c' ≤ 6 ∧ rS lv sd c' σ0 σ1 := by
  have hx : ((6 : Int32) * nI sd) + nI c = nI (6 * sd + c) := by rw [show (6 : Int32) = nI 6 by decide, nI_mulI (by omega) (by omega) (by omega), nI_add]
  have n110 : ∀ q, q = 110 ∨ q = 111 → ¬ rIn lv q (6 * sd + c) := fun q hq => by unfold rIn; omega
  have w235 : ∀ d n x2 (σ' : Sg), rS lv sd c σ0 σ' → Pl PRG n d 202 235 [(0, .ref 97), (1, .int (nI (6 * sd + c))), (2, .int x2)] [] σ' (fun _ s' => ∃ c', c' ≤ 6 ∧ rS lv sd c' σ0 s') := fun d n x2 σ' hS => Pl.pos (fun n1 _ => p_202_235 σ' _ x2 (fun _ σ2 h2 => by
    have k2 := (hS.put (y := σ'.1 97 30) (by unfold rIn; omega) (by omega) (by omega) : rS lv sd c σ0 (s1 σ' 113 _ (σ'.1 97 30))).call h2 (by decide) rfl
    refine ⟨fun _ _ _ _ _ => ?_, fun _ => ⟨c, by omega, k2⟩⟩
    obtain ⟨a1, a2, a3⟩ := k2
    rw [a2, nI_clamp (by omega), a3, nI_1]
    exact ⟨c + 1, by omega, (a1.put2.put (by unfold rIn; omega)).put (by unfold rIn; omega), by rw [s1_off (by omega), s1_off (by omega)]; exact a2, by rw [s1_on]⟩))
  have w224 : ∀ d n x2 (σ' : Sg), rS lv sd c σ0 σ' → Pl PRG n d 202 224 [(0, .ref 97), (1, .int (nI (6 * sd + c))), (2, .int x2)] [] σ' (fun _ s' => ∃ c', c' ≤ 6 ∧ rS lv sd c' σ0 s') := fun d n x2 σ' hS => Pl.pos (fun n1 _ => p_202_224 σ' _ x2 ⟨fun _ σ2 h2 => w235 d n1 x2 σ2 (hS.call h2 (by decide) rfl), fun _ => w235 d n1 x2 σ' hS⟩)
  have w184 : ∀ d n x2 (σ' : Sg), rS lv sd c σ0 σ' → Pl PRG n d 202 184 [(0, .ref 97), (1, .int (nI (6 * sd + c))), (2, .int x2)] [] σ' (fun _ s' => ∃ c', c' ≤ 6 ∧ rS lv sd c' σ0 s') := fun d n x2 σ' hS => Pl.pos (fun n1 _ => p_202_184 σ' _ x2 (fun _ _ w2 σ2 h2 _ => by
    have k2 := ((hS.put (y := σ'.1 97 30) (by unfold rIn; omega) (by omega) (by omega) : rS lv sd c σ0 (s1 σ' 113 _ (σ'.1 97 30))).put (y := σ'.1 97 30) (by unfold rIn; omega) (by omega) (by omega) : rS lv sd c σ0 (s1 (s1 σ' 113 _ (σ'.1 97 30)) 112 _ (σ'.1 97 30))).call h2 (by decide) rfl
    exact ⟨fun _ σ3 h3 => w224 d n1 x2 σ3 (k2.call h3 (by decide) rfl), fun _ => w224 d n1 x2 σ2 k2⟩))
  have w129 : ∀ d n x2 (σ' : Sg), rS lv sd c σ0 σ' → Pl PRG n d 202 129 [(0, .ref 97), (1, .int (nI (6 * sd + c))), (2, .int x2)] [] σ' (fun _ s' => ∃ c', c' ≤ 6 ∧ rS lv sd c' σ0 s') := fun d n x2 σ' hS => Pl.pos (fun n1 _ => p_202_129 σ' _ x2 ⟨fun _ _ _ σ2 h2 _ w3 σ3 h3 _ => by
    rw [nI_clamp (by omega)] at h2
    have k2 := (hS.put (y := σ'.1 100 (σ'.1 97 11).toNatClampNeg - 23) (n110 111 (by omega)) (by omega) (by omega) : rS lv sd c σ0 (s1 σ' 111 (6 * sd + c) _)).call h2 (by decide) rfl
    have k3 := (k2.put (y := σ2.1 97 30) (by unfold rIn; omega) (by omega) (by omega) : rS lv sd c σ0 (s1 σ2 112 _ (σ2.1 97 30))).call h3 (by decide) rfl
    exact ⟨fun _ => w184 d n1 x2 σ3 k3, fun _ σ4 h4 => w184 d n1 x2 σ4 (k3.call h4 (by decide) rfl)⟩, fun _ => ⟨c, by omega, hS⟩⟩)
  have w124 : ∀ d n x2 (σ' : Sg), rS lv sd c σ0 σ' → Pl PRG n d 202 124 [(0, .ref 97), (1, .int (nI (6 * sd + c))), (2, .int x2)] [] σ' (fun _ s' => ∃ c', c' ≤ 6 ∧ rS lv sd c' σ0 s') := fun d n x2 σ' hS => Pl.pos (fun n1 _ => p_202_124 σ' _ x2 (fun σ2 h2 => w129 d n1 x2 σ2 (hS.call h2 (by decide) rfl)))
  have w77 : ∀ d n x2 (σ' : Sg), rS lv sd c σ0 σ' → Pl PRG n d 202 77 [(0, .ref 97), (1, .int (nI (6 * sd + c))), (2, .int x2)] [] σ' (fun _ s' => ∃ c', c' ≤ 6 ∧ rS lv sd c' σ0 s') := fun d n x2 σ' hS => Pl.pos (fun n1 _ => p_202_77 σ' _ x2 (fun w2 σ2 h2 _ => by
    have k2 := hS.call h2 (by decide) rfl
    rw [nI_clamp (by omega)]
    have k3 : rS lv sd c σ0 (s1 σ2 110 (6 * sd + c) w2) := k2.put (n110 110 (by omega)) (by omega) (by omega)
    exact ⟨fun _ => w124 d n1 x2 _ k3, fun _ _ => ⟨fun _ => w124 d n1 x2 _ k3, fun _ _ => ⟨fun _ => w129 d n1 x2 _ k3, fun _ => w124 d n1 x2 _ k3⟩⟩⟩))
  have w34 : ∀ d n x2 x3 (σ' : Sg), rS lv sd c σ0 σ' → Pl PRG n d 202 34 [(0, .ref 97), (1, .int (nI (6 * sd + c))), (2, .int x2), (3, .int x3)] [] σ' (fun _ s' => ∃ c', c' ≤ 6 ∧ rS lv sd c' σ0 s') := by
    intro d n
    induction n using Nat.strongRecOn with
    | _ n ih =>
      intro x2 x3 σ' hS
      refine Pl.pos (fun n1 h1 => p_202_34 σ' _ x2 x3 ⟨fun _ => w77 d n1 x2 σ' hS, fun _ => ⟨fun _ _ _ => ⟨fun _ σ2 h2 => ?_, fun _ => ?_⟩, fun _ => w77 d n1 x2 σ' hS⟩⟩)
      · exact Pl.pos (fun n2 h3 => p_202_71 σ2 _ x2 x3 (ih n2 (by omega) x2 _ σ2 (hS.call h2 (by decide) rfl)))
      · exact Pl.pos (fun n2 h3 => p_202_71 σ' _ x2 x3 (ih n2 (by omega) x2 _ σ' hS))
  refine h.by (Q := fun _ s' => ∃ c', c' ≤ 6 ∧ rS lv sd c' σ0 s') (fun n d => p_202_0 σ (fun _ σ2 h2 σ3 h3 => ?_))
  rw [hS.2.1, nI_clamp (by omega), hS.2.2, hx]
  exact w34 d n _ 0 σ3 ((hS.call h2 (by decide) rfl).call h3 (by decide) rfl)
theorem tl203 {c : Nat} {σ0 : Sg} (h : RCx PRG n 203 [.ref 97] σ none σ1) (hl : lv < 2 ∧ sd < 2 ∧ ¬ lv = sd) (hc : c ≤ 6) (hS : rS lv sd c σ0 σ) : ∃ c', c' ≤ 6 ∧ rS lv sd c' σ0 σ1 := by
  have fin : ∀ d n (σ' : Sg), (∃ c', c' ≤ 6 ∧ rS lv sd c' σ0 σ') → Pl PRG n d 203 213 [] [] σ' (fun _ s' => ∃ c', c' ≤ 6 ∧ rS lv sd c' σ0 s') := fun d n σ' h => Pl.pos (fun n1 _ => p_203_213 σ' h)
  have w120 : ∀ d n x1 x3 (σ' : Sg), rS lv sd c σ0 σ' → Pl PRG n d 203 120 [(0, .ref 97), (1, .int x1), (3, .int x3)] [] σ' (fun _ s' => ∃ c', c' ≤ 6 ∧ rS lv sd c' σ0 s') := fun d n x1 x3 σ' hS => Pl.pos (fun n1 _ => p_203_120 σ' x1 x3 (fun σ2 h2 _ _ => by
    have k2 := hS.call h2 (by decide) rfl
    rw [k2.2.1, nI_clamp (by omega)]
    exact fin d n1 _ ⟨c, hc, (k2.put (by unfold rIn; omega) (by omega) (by omega)).put (by unfold rIn; omega) (by omega) (by omega)⟩))
  have w90 : ∀ d n x1 x2 x3 (σ' : Sg), rS lv sd c σ0 σ' → Pl PRG n d 203 90 [(0, .ref 97), (1, .int x1), (2, .int x2), (3, .int x3)] [] σ' (fun _ s' => ∃ c', c' ≤ 6 ∧ rS lv sd c' σ0 s') := fun d n x1 x2 x3 σ' hS => Pl.pos (fun n1 _ => p_203_90 σ' x1 x2 x3 (w120 d n1 x1 x3 σ' hS))
  have w114 : ∀ d n x1 x2 x3 (σ' : Sg), rS lv sd c σ0 σ' → Pl PRG n d 203 114 [(0, .ref 97), (1, .int x1), (2, .int x2), (3, .int x3)] [] σ' (fun _ s' => ∃ c', c' ≤ 6 ∧ rS lv sd c' σ0 s') := fun d n x1 x2 x3 σ' hS => Pl.pos (fun n1 _ => p_203_114 σ' x1 x2 x3 (fun σ2 h2 => w120 d n1 x1 x3 σ2 (hS.call h2 (by decide) rfl)))
  have w194 : ∀ d n (σ' : Sg), (σ'.1 97 13 = 0 → c ≤ 5) → rS lv sd c σ0 σ' → Pl PRG n d 203 194 [(0, .ref 97)] [] σ' (fun _ s' => ∃ c', c' ≤ 6 ∧ rS lv sd c' σ0 s') := fun d n σ' h5 hS => Pl.pos (fun n1 _ => p_203_194 σ' ⟨fun z σ2 h2 => fin d n1 σ2 (tl202 h2 hl (h5 z) hS), fun _ => fin d n1 σ' ⟨c, hc, hS⟩⟩)
  refine h.by (Q := fun _ s' => ∃ c', c' ≤ 6 ∧ rS lv sd c' σ0 s') (fun n d => p_203_0 σ (fun _ => ⟨fun _ σ2 h2 => fin d n σ2 ⟨c, hc, hS.call h2 (by decide) rfl⟩, fun _ σ2 h2 w4 σ4 h4 w6 σ6 h6 => ?_, fun _ σ2 h2 w4 σ4 h4 _ σ6 h6 => ?_, fun _ _ => ?_⟩))
  · have k6 := ((hS.call h2 (by decide) rfl).call h4 (by decide) rfl).call h6 (by decide) rfl
    refine ⟨fun _ w8 σ8 h8 _ => ?_, fun _ => w90 d n _ _ _ σ6 k6⟩
    have k8 := k6.call h8 (by decide) rfl
    refine ⟨fun _ => w90 d n _ _ _ σ8 k8, fun _ w10 σ10 h10 _ => ?_⟩
    have k10 := k8.call h10 (by decide) rfl
    exact ⟨fun _ => w90 d n _ _ _ σ10 k10, fun _ => ⟨fun _ => w114 d n _ _ _ σ10 k10, fun _ => ⟨fun _ => w120 d n _ _ σ10 k10, fun _ => w114 d n _ _ _ σ10 k10⟩⟩⟩
  · have k2 := hS.call h2 (by decide) rfl
    have k4 := k2.call h4 (by decide) rfl
    rw [k2.2.1, nI_clamp (by omega)] at h6
    exact fin d n σ6 ⟨c, hc, (k4.put (y := w4) (by unfold rIn; omega) (by omega) (by omega) : rS lv sd c σ0 (s1 σ4 108 sd w4)).call h6 (by decide) rfl⟩
  · rw [hS.2.1, nI_clamp (by omega), hS.2.2]
    refine ⟨fun e σ2 h2 => w194 d n σ2 (fun z => ?_) (hS.call h2 (by decide) rfl), fun e => w194 d n σ (fun _ => ?_) hS⟩
    · have hn := h2.by (Q := fun _ s' => ¬ s'.1 97 13 = 0) (fun n d => p_190_0 σ 2 ⟨fun _ _ => by rw [s1_off (by omega), s1_on]; decide, fun hz e => hz (by rw [e]; decide)⟩)
      exact absurd z hn
    · rcases Nat.lt_or_ge c 6 with g | g
      · omega
      · exact absurd (by rw [show c = 6 by omega]; rfl) e
end Ro
