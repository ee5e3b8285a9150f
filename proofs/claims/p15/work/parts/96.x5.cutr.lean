/-! the reference cuts a text into tokens -/
def bz (b : Nat → Int32) (L i : Nat) : Int32 := if i < L then b i else 0
def BR (b : Nat → Int32) (L : Nat) (σ : Sg) : Prop := L ≤ 2000 ∧ σ.1 97 4 = nI L ∧ ∀ i, i < L → σ.1 99 i &&& 255 = b i
def KWr (σ : Sg) : Prop := ∀ j, j < 22 → σ.2 104 j = kyR.getD j 0
theorem rc181 {n : Nat} {b : Nat → Int32} {L i : Nat} {w : Int32} {σ σ1 : Sg} (h : RCx PRG n 181 [.ref 97, .int (nI i)] σ (some (.int w)) σ1) (hB : BR b L σ) (hi : i < 2 ^ 31) : σ1 = σ ∧ w = bz b L i := by
  have hL := hB.1
  obtain ⟨h1, h2⟩ := h.by (Q := fun v s => s = σ ∧ v = some (.int (bz b L i))) (fun m d => p_181_0 σ (nI i) (by
    rw [hB.2.1]
    refine ⟨fun c => ⟨rfl, ?_⟩, fun c _ => ⟨rfl, ?_⟩⟩
    · have := (nI_leI (a := L) (b := i) (by omega) hi).mp c
      unfold bz
      rw [if_neg (by omega)]
    · have hl : i < L := nle_of (by omega) hi c
      rw [nI_clamp hi, hB.2.2 i hl]
      unfold bz
      rw [if_pos hl]))
  cases h2
  exact ⟨h1, rfl⟩
theorem rc183 {n : Nat} {x w : Int32} {σ σ1 : Sg} (h : RCx PRG n 183 [.int x] σ (some (.int w)) σ1) : σ1 = σ ∧ (w = 0 ↔ isLt x = false) := by
  have := h.by (Q := fun v s => s = σ ∧ ∃ w : Int32, v = some (.int w) ∧ (w = 0 ↔ isLt x = false)) (fun m d => p_183_0 σ x ⟨fun c => ⟨rfl, _, rfl, fun _ => by unfold isLt; rw [decide_eq_true c]; rfl, fun _ => rfl⟩, fun c => ⟨fun c2 => ⟨rfl, _, rfl, fun _ => by unfold isLt; rw [decide_eq_true c2, Bool.not_true, Bool.and_false], fun _ => rfl⟩, fun c2 => ⟨rfl, _, rfl, fun e => absurd e (by decide), fun e => by unfold isLt at e; rw [decide_eq_false c, decide_eq_false c2] at e; cases e⟩⟩⟩)
  obtain ⟨h1, w', h2, h3⟩ := this
  cases h2
  exact ⟨h1, h3⟩
theorem rc182 {n : Nat} {x w : Int32} {σ σ1 : Sg} (h : RCx PRG n 182 [.int x] σ (some (.int w)) σ1) : σ1 = σ ∧ (w = 0 ↔ isD x = false) := by
  have := h.by (Q := fun v s => s = σ ∧ ∃ w : Int32, v = some (.int w) ∧ (w = 0 ↔ isD x = false)) (fun m d => p_182_0 σ x ⟨fun c => ⟨rfl, _, rfl, fun _ => by unfold isD; rw [decide_eq_true c]; rfl, fun _ => rfl⟩, fun c => ⟨fun c2 => ⟨rfl, _, rfl, fun _ => by unfold isD; rw [decide_eq_true c2, Bool.not_true, Bool.and_false], fun _ => rfl⟩, fun c2 => ⟨rfl, _, rfl, fun e => absurd e (by decide), fun e => by unfold isD at e; rw [decide_eq_false c, decide_eq_false c2] at e; cases e⟩⟩⟩)
  obtain ⟨h1, w', h2, h3⟩ := this
  cases h2
  exact ⟨h1, h3⟩
theorem rc184 {n : Nat} {c : Int32} {x w : Int64} {σ σ1 : Sg} (h : RCx PRG n 184 [.long x, .int c] σ (some (.long w)) σ1) (hc : ¬ c = 0) : σ1 = σ ∧ w = Int64.ofNat 27 * x + ((c - 97) + 1).toInt64 := by
  obtain ⟨h1, h2⟩ := h.by (Q := fun v s => s = σ ∧ v = some (.long (Int64.ofNat 27 * x + ((c - 97) + 1).toInt64))) (fun m d => p_184_0 σ c x ⟨fun c0 => absurd c0 hc, fun _ => ⟨rfl, rfl⟩⟩)
  cases h2
  exact ⟨h1, rfl⟩
def tnS (σ : Sg) (s : Nat) (k p v : Int32) (nm : Int64) : Sg := s1 (s2 (s1 (s1 (s1 σ 100 s k) 101 s p) 102 s v) 103 s nm) 97 10 (nI (s + 1))
theorem rc186 {n s : Nat} {k p v : Int32} {nm : Int64} {σ σ1 : Sg} (h : RCx PRG n 186 [.ref 97, .int k, .int p, .int v, .long nm] σ none σ1) (hs : σ.1 97 10 = nI s) (hs2 : s < 2 ^ 31) : σ1 = tnS σ s k p v nm := by
  have e : (σ.1 97 10).toNatClampNeg = s := by rw [hs, nI_clamp hs2]
  refine h.by (Q := fun _ s' => s' = tnS σ s k p v nm) (fun m d => p_186_0 σ k p v nm (fun _ _ _ _ => ?_))
  show _ = tnS σ s k p v nm
  rw [e, hs, nI_1]
  rfl
theorem sg1_t {c : Int32} (n61 : ¬ c = 61) (n33 : ¬ c = 33) (n60 : ¬ c = 60) (n59 : ¬ c = 59) (n40 : ¬ c = 40) (n41 : ¬ c = 41) (n43 : ¬ c = 43) (n45 : ¬ c = 45) (n42 : ¬ c = 42) (n47 : ¬ c = 47) : sgk c true = 1 := by
  unfold sgk
  rw [if_neg n59, if_neg n43, if_neg n45, if_neg n42, if_neg n47, if_neg n40, if_neg n41, if_neg n60]
  rw [if_neg n61, if_neg n33]
theorem dflt_t {c : Int32} (n61 : ¬ c = 61) (n33 : ¬ c = 33) (n60 : ¬ c = 60) (n59 : ¬ c = 59) (n40 : ¬ c = 40) (n41 : ¬ c = 41) (n43 : ¬ c = 43) (n45 : ¬ c = 45) (n42 : ¬ c = 42) (n47 : ¬ c = 47) : twoK (sgk c true) = false := by rw [sg1_t n61 n33 n60 n59 n40 n41 n43 n45 n42 n47]; rfl
theorem dfl3_t {c : Int32} (n61 : ¬ c = 61) (n33 : ¬ c = 33) (n60 : ¬ c = 60) (n59 : ¬ c = 59) (n40 : ¬ c = 40) (n41 : ¬ c = 41) (n43 : ¬ c = 43) (n45 : ¬ c = 45) (n42 : ¬ c = 42) (n47 : ¬ c = 47) : 3 = rk (sgk c true) := by rw [sg1_t n61 n33 n60 n59 n40 n41 n43 n45 n42 n47]; rfl
theorem sg1_f {c : Int32} (n59 : ¬ c = 59) (n40 : ¬ c = 40) (n41 : ¬ c = 41) (n43 : ¬ c = 43) (n45 : ¬ c = 45) (n42 : ¬ c = 42) (n60 : ¬ c = 60) (n47 : ¬ c = 47) : sgk c false = 1 := by
  unfold sgk
  rw [if_neg n59, if_neg n43, if_neg n45, if_neg n42, if_neg n47, if_neg n40, if_neg n41, if_neg n60]
  split
  · rfl
  · split <;> rfl
theorem dflt_f {c : Int32} (n59 : ¬ c = 59) (n40 : ¬ c = 40) (n41 : ¬ c = 41) (n43 : ¬ c = 43) (n45 : ¬ c = 45) (n42 : ¬ c = 42) (n60 : ¬ c = 60) (n47 : ¬ c = 47) : twoK (sgk c false) = false := by rw [sg1_f n59 n40 n41 n43 n45 n42 n60 n47]; rfl
theorem dfl3_f {c : Int32} (n59 : ¬ c = 59) (n40 : ¬ c = 40) (n41 : ¬ c = 41) (n43 : ¬ c = 43) (n45 : ¬ c = 45) (n42 : ¬ c = 42) (n60 : ¬ c = 60) (n47 : ¬ c = 47) : 3 = rk (sgk c false) := by rw [sg1_f n59 n40 n41 n43 n45 n42 n60 n47]; rfl
theorem rc187 {n s i : Nat} {c d0 w : Int32} {σ σ1 : Sg} (h : RCx PRG n 187 [.ref 97, .int (nI i), .int c, .int d0] σ (some (.int w)) σ1) (hs : σ.1 97 10 = nI s) (hs2 : s < 2 ^ 31) : σ1 = tnS σ s (nI (rk (sgk c (decide (d0 = 61))))) (nI i) 0 0 ∧ w = (if twoK (sgk c (decide (d0 = 61))) then 2 else 1) := by
  have fin0 : ∀ (e : Bool) (m d t k : Nat), decide (d0 = 61) = e → ((t = 0 ∧ twoK (sgk c e) = false) ∨ ((0 < t ∧ t < 100) ∧ twoK (sgk c e) = true)) → k = rk (sgk c e) → Pl PRG m d 187 161 [(0, .ref 97), (1, .int (nI i)), (4, .int (nI t)), (5, .int (nI k))] [] σ (fun v s' => s' = tnS σ s (nI (rk (sgk c (decide (d0 = 61))))) (nI i) 0 0 ∧ v = some (.int (if twoK (sgk c (decide (d0 = 61))) then 2 else 1))) := by
    intro e m d t k he ht hk
    rw [he]
    refine Pl.pos (fun m2 _ => p_187_161 σ (nI i) (nI t) (nI k) (fun σ1 hn => ?_))
    have h1 := rc186 hn hs hs2
    rw [hk] at h1
    refine ⟨fun c2 => ⟨h1, ?_⟩, fun c2 => ⟨h1, ?_⟩⟩
    · rcases ht with ⟨rfl, h2⟩ | ⟨h2, -⟩
      · rw [h2]; rfl
      · exact absurd c2 (nI_nle h2.1 (by omega))
    · rcases ht with ⟨rfl, -⟩ | ⟨-, h2⟩
      · exact absurd (by decide) c2
      · rw [h2]; rfl
  obtain ⟨h1, h2⟩ := h.by (Q := fun v s' => s' = tnS σ s (nI (rk (sgk c (decide (d0 = 61))))) (nI i) 0 0 ∧ v = some (.int (if twoK (sgk c (decide (d0 = 61))) then 2 else 1))) (fun m d => p_187_0 σ (nI i) c d0 ⟨fun ce => by
      have fin := fun t k => fin0 true m d t k (decide_eq_true ce)
      exact ⟨fun c => by
        subst c
        exact fin 11 11 (Or.inr ⟨by decide, by decide⟩) (by decide), fun n61 => ⟨fun c => by
        subst c
        exact fin 12 12 (Or.inr ⟨by decide, by decide⟩) (by decide), fun n33 => ⟨fun c => by
        subst c
        exact fin 14 14 (Or.inr ⟨by decide, by decide⟩) (by decide), fun n60 => ⟨fun c => by
        subst c
        exact fin 0 4 (Or.inl ⟨rfl, by decide⟩) (by decide), fun n59 => ⟨fun c => by
        subst c
        exact fin 0 6 (Or.inl ⟨rfl, by decide⟩) (by decide), fun n40 => ⟨fun c => by
        subst c
        exact fin 0 7 (Or.inl ⟨rfl, by decide⟩) (by decide), fun n41 => ⟨fun c => by
        subst c
        exact fin 0 8 (Or.inl ⟨rfl, by decide⟩) (by decide), fun n43 => ⟨fun c => by
        subst c
        exact fin 0 9 (Or.inl ⟨rfl, by decide⟩) (by decide), fun n45 => ⟨fun c => by
        subst c
        exact fin 0 10 (Or.inl ⟨rfl, by decide⟩) (by decide), fun n42 => ⟨fun c => absurd c n60, fun _ => ⟨fun c => by
        subst c
        exact fin 0 15 (Or.inl ⟨rfl, by decide⟩) (by decide), fun n47 => fin 0 3 (Or.inl ⟨rfl, dflt_t n61 n33 n60 n59 n40 n41 n43 n45 n42 n47⟩) (dfl3_t n61 n33 n60 n59 n40 n41 n43 n45 n42 n47)⟩⟩⟩⟩⟩⟩⟩⟩⟩⟩⟩, fun ce => by
      have fin := fun t k => fin0 false m d t k (decide_eq_false ce)
      exact ⟨fun c => by
        subst c
        exact fin 0 4 (Or.inl ⟨rfl, by decide⟩) (by decide), fun n59 => ⟨fun c => by
        subst c
        exact fin 0 6 (Or.inl ⟨rfl, by decide⟩) (by decide), fun n40 => ⟨fun c => by
        subst c
        exact fin 0 7 (Or.inl ⟨rfl, by decide⟩) (by decide), fun n41 => ⟨fun c => by
        subst c
        exact fin 0 8 (Or.inl ⟨rfl, by decide⟩) (by decide), fun n43 => ⟨fun c => by
        subst c
        exact fin 0 9 (Or.inl ⟨rfl, by decide⟩) (by decide), fun n45 => ⟨fun c => by
        subst c
        exact fin 0 10 (Or.inl ⟨rfl, by decide⟩) (by decide), fun n42 => ⟨fun c => by
        subst c
        exact fin 0 13 (Or.inl ⟨rfl, by decide⟩) (by decide), fun n60 => ⟨fun c => by
        subst c
        exact fin 0 15 (Or.inl ⟨rfl, by decide⟩) (by decide), fun n47 => fin 0 3 (Or.inl ⟨rfl, dflt_f n59 n40 n41 n43 n45 n42 n60 n47⟩) (dfl3_f n59 n40 n41 n43 n45 n42 n60 n47)⟩⟩⟩⟩⟩⟩⟩⟩⟩)
  cases h2
  exact ⟨h1, rfl⟩
def recR (σ : Sg) (m : Nat) (t : Tk) : Prop := σ.1 100 m = nI (rk t.1) ∧ σ.1 101 m = nI t.2.1 ∧ (t.1 = 3 → σ.1 102 m = t.2.2.1) ∧ (t.1 = 2 → σ.2 103 m = t.2.2.2.2)
def RQ (TT : List Tk) (σ : Sg) : Prop := ∀ m t, m ≤ 400 → TT[m]? = some t → recR σ m t
section Tn
variable {σ : Sg} {s : Nat} {k p v : Int32} {nm : Int64}
theorem tnS_x {q j : Nat} (h : ¬ q = 97 ∧ ¬ q = 100 ∧ ¬ q = 101 ∧ ¬ q = 102) : (tnS σ s k p v nm).1 q j = σ.1 q j := by
  unfold tnS
  rw [s1_off (fun e => h.1 e.1)]
  show (s1 (s1 (s1 σ 100 s k) 101 s p) 102 s v).1 q j = _
  rw [s1_off (fun e => h.2.2.2 e.1), s1_off (fun e => h.2.2.1 e.1), s1_off (fun e => h.2.1 e.1)]
theorem tnS_97 {j : Nat} (h : ¬ j = 10) : (tnS σ s k p v nm).1 97 j = σ.1 97 j := by
  unfold tnS
  rw [s1_off (fun e => h e.2)]
  show (s1 (s1 (s1 σ 100 s k) 101 s p) 102 s v).1 97 j = _
  rw [s1_off (by omega), s1_off (by omega), s1_off (by omega)]
theorem tnS_100 {j : Nat} : (tnS σ s k p v nm).1 100 j = if j = s then k else σ.1 100 j := by
  unfold tnS
  rw [s1_off (by omega)]
  show (s1 (s1 (s1 σ 100 s k) 101 s p) 102 s v).1 100 j = _
  rw [s1_off (by omega), s1_off (by omega)]
  by_cases e : j = s
  · subst e; rw [s1_on, if_pos rfl]
  · rw [s1_off (fun h => e h.2), if_neg e]
theorem tnS_101 {j : Nat} : (tnS σ s k p v nm).1 101 j = if j = s then p else σ.1 101 j := by
  unfold tnS
  rw [s1_off (by omega)]
  show (s1 (s1 (s1 σ 100 s k) 101 s p) 102 s v).1 101 j = _
  rw [s1_off (by omega)]
  by_cases e : j = s
  · subst e; rw [s1_on, if_pos rfl]
  · rw [s1_off (fun h => e h.2), if_neg e, s1_off (by omega)]
theorem tnS_102 {j : Nat} : (tnS σ s k p v nm).1 102 j = if j = s then v else σ.1 102 j := by
  unfold tnS
  rw [s1_off (by omega)]
  show (s1 (s1 (s1 σ 100 s k) 101 s p) 102 s v).1 102 j = _
  by_cases e : j = s
  · subst e; rw [s1_on, if_pos rfl]
  · rw [s1_off (fun h => e h.2), if_neg e, s1_off (by omega), s1_off (by omega)]
theorem tnS_103 {j : Nat} : (tnS σ s k p v nm).2 103 j = if j = s then nm else σ.2 103 j := by
  show (if (103 : Nat) = 103 ∧ j = s then nm else σ.2 103 j) = _
  by_cases e : j = s
  · rw [if_pos ⟨rfl, e⟩, if_pos e]
  · rw [if_neg (fun h => e h.2), if_neg e]
theorem tnS_2 {q j : Nat} (h : ¬ q = 103) : (tnS σ s k p v nm).2 q j = σ.2 q j := by
  show (if q = 103 ∧ j = s then nm else σ.2 q j) = _
  rw [if_neg (fun e => h e.1)]
theorem tnS_n : (tnS σ s k p v nm).1 97 10 = nI (s + 1) := by
  unfold tnS
  exact s1_on
theorem tnS_old {m : Nat} {t : Tk} (h : recR σ m t) (hm : ¬ m = s) : recR (tnS σ s k p v nm) m t := by
  obtain ⟨h1, h2, h3, h4⟩ := h
  refine ⟨by rw [tnS_100, if_neg hm]; exact h1, by rw [tnS_101, if_neg hm]; exact h2, fun e => by rw [tnS_102, if_neg hm]; exact h3 e, fun e => by rw [tnS_103, if_neg hm]; exact h4 e⟩
theorem tnS_new {t : Tk} (h3 : t.1 = 3 → v = t.2.2.1) (h4 : t.1 = 2 → nm = t.2.2.2.2) : recR (tnS σ s (nI (rk t.1)) (nI t.2.1) v nm) s t :=
  ⟨by rw [tnS_100, if_pos rfl], by rw [tnS_101, if_pos rfl], fun e => by rw [tnS_102, if_pos rfl]; exact h3 e, fun e => by rw [tnS_103, if_pos rfl]; exact h4 e⟩
theorem BR.tn {b : Nat → Int32} {L : Nat} (h : BR b L σ) : BR b L (tnS σ s k p v nm) := ⟨h.1, by rw [tnS_97 (by decide)]; exact h.2.1, fun i hi => by rw [tnS_x (by decide)]; exact h.2.2 i hi⟩
theorem KWr.tn (h : KWr σ) : KWr (tnS σ s k p v nm) := fun j hj => by rw [tnS_2 (by decide)]; exact h j hj
end Tn
def RI (b : Nat → Int32) (L : Nat) (TT : List Tk) (s i : Nat) (σ : Sg) : Prop := σ.1 97 10 = nI s ∧ s ≤ 401 ∧ i ≤ L ∧ BR b L σ ∧ KWr σ ∧ (∀ m t, m < s → TT[m]? = some t → recR σ m t) ∧ ∃ pre f, TT = pre ++ toks b L f i ∧ pre.length = s ∧ L - i < f
theorem RI.end {b : Nat → Int32} {L : Nat} {TT : List Tk} {s i : Nat} {σ : Sg} (h : RI b L TT s i σ) (hi : L ≤ i) : RQ TT (tnS σ s 0 (nI L) 0 0) := by
  obtain ⟨h1, h2, h3, h4, h5, h6, pre, f, e1, e2, e3⟩ := h
  intro m t hm ht
  rcases Nat.lt_or_ge m s with g | g
  · exact tnS_old (h6 m t g ht) (by omega)
  · cases f with
    | zero => omega
    | succ f =>
      have e4 : toks b L (f + 1) i = [(0, L, 0, 0, 0)] := by
        unfold toks
        rw [if_pos hi]
      rw [e1, e4, List.getElem?_append_right (by omega), e2] at ht
      have hms : m - s = 0 := by
        rcases Nat.eq_zero_or_pos (m - s) with z | z
        · exact z
        · rw [List.getElem?_eq_none (by simp; omega)] at ht
          cases ht
      rw [hms] at ht
      have : m = s := by omega
      subst this
      cases ht
      exact tnS_new (t := (0, L, 0, 0, 0)) (fun e => absurd e (show ¬ (0 : Nat) = 3 by decide)) (fun e => absurd e (show ¬ (0 : Nat) = 2 by decide))
theorem RI.tok {b : Nat → Int32} {L : Nat} {TT : List Tk} {s i : Nat} {σ : Sg} (h : RI b L TT s i σ) (hi : i < L) (hs : s ≤ 400) (hw : isW (b i) = false) {v : Int32} {nm : Int64} (h3 : (tk1 b L i).1.1 = 3 → v = (tk1 b L i).1.2.2.1) (h2 : (tk1 b L i).1.1 = 2 → nm = (tk1 b L i).1.2.2.2.2) : RI b L TT (s + 1) (tk1 b L i).2 (tnS σ s (nI (rk (tk1 b L i).1.1)) (nI (tk1 b L i).1.2.1) v nm) := by
  obtain ⟨a1, a2, a3, a4, a5, a6, pre, f, e1, e2, e3⟩ := h
  cases f with
  | zero => omega
  | succ f =>
    have e4 : toks b L (f + 1) i = (tk1 b L i).1 :: toks b L f (tk1 b L i).2 := by
      show (if L ≤ i then _ else if isW (b i) then _ else _) = _
      rw [if_neg (by omega), hw]
      rfl
    rw [e4] at e1
    have hat : TT[s]? = some (tk1 b L i).1 := by
      rw [e1, List.getElem?_append_right (by omega), e2, Nat.sub_self]
      rfl
    have hnx := tk1_next (b := b) hi
    refine ⟨tnS_n, by omega, hnx.2, a4.tn, a5.tn, fun m t hm ht => ?_, pre ++ [(tk1 b L i).1], f, ?_, by simp [e2], by omega⟩
    · rcases Nat.lt_or_ge m s with g | g
      · exact tnS_old (a6 m t g ht) (by omega)
      · have : m = s := by omega
        subst this
        rw [hat] at ht
        cases ht
        exact tnS_new h3 h2
    · rw [e1, List.append_assoc]
      rfl
theorem RI.blank {b : Nat → Int32} {L : Nat} {TT : List Tk} {s i : Nat} {σ : Sg} (h : RI b L TT s i σ) (hi : i < L) (hw : isW (b i) = true) : RI b L TT s (i + 1) σ := by
  obtain ⟨a1, a2, a3, a4, a5, a6, pre, f, e1, e2, e3⟩ := h
  refine ⟨a1, a2, by omega, a4, a5, a6, ?_⟩
  cases f with
  | zero => omega
  | succ f =>
    refine ⟨pre, f, ?_, e2, by omega⟩
    have e4 : toks b L (f + 1) i = toks b L f (i + 1) := by
      show (if L ≤ i then _ else if isW (b i) then _ else _) = _
      rw [if_neg (by omega), if_pos hw]
    rw [e1, e4]
theorem kyR_drop {j : Nat} (h : j < 22) : kyR.drop j = kyR.getD j 0 :: kyR.drop (j + 1) := by
  have hl : j < kyR.length := h
  rw [List.drop_eq_getElem_cons hl, List.getD_eq_getElem?_getD, List.getElem?_eq_getElem hl]
  rfl
theorem kdm_lt {x : Int64} : ∀ (l : List Int64) (k c : Nat), c < 20 + k → k + l.length ≤ 22 → kdm l k x c < 42 := by
  intro l
  induction l with
  | nil => intro k c h1 h2; unfold kdm; simp at h2; omega
  | cons w l ih =>
    intro k c h1 h2
    rw [List.length_cons] at h2
    unfold kdm
    refine ih (k + 1) _ ?_ (by omega)
    split <;> omega
/-- the words in quotes -/
theorem kr_loop {x : Int64} {σ : Sg} (hk : KWr σ) {d i r C : Nat} {Q : Option Value → Sg → Prop} (hC : C < 42) : ∀ (n k c : Nat), k ≤ 22 → c < 42 → kdm (kyR.drop k) k x c = C → (∀ n' σ1, n' < n → RCx PRG n' 186 [.ref 97, .int (nI C), .int (nI i), .int (0 : Int32), .long x] σ none σ1 → Pl PRG n' d 188 7 [(0, .ref 97), (1, .int (nI i + nI r))] [] σ1 Q) → Pl PRG n d 188 146 [(0, .ref 97), (1, .int (nI i)), (3, .int (nI r)), (4, .long x), (6, .int (nI c)), (7, .int (nI k))] [] σ Q := by
  intro n
  induction n with
  | zero => intro k c _ _ _ _; exact Pl.zero
  | succ n ih =>
    intro k c hk2 hc he go
    refine p_188_146 σ (nI i) (nI r) (nI c) (nI k) x ⟨fun c1 => ?_, fun c1 _ => ?_⟩
    · have h22 : 22 ≤ k := (nI_leI (a := 22) (by decide) (by omega)).mp c1
      obtain rfl : k = 22 := by omega
      have : c = C := he
      subst this
      exact fun σ1 hn => go n σ1 (by omega) hn
    · have h22 : k < 22 := nle_of (a := 22) (by decide) (by omega) c1
      rw [nI_clamp (by omega), hk k h22]
      rw [kyR_drop h22] at he
      unfold kdm at he
      refine ⟨fun c2 => ?_, fun c2 => ?_⟩
      · rw [if_pos ((lg_cmp_eq _ _).mp c2)] at he
        have e : (20 : Int32) + nI k = nI (20 + k) := by
          show nI 20 + nI k = _
          rw [nI_add]
        rw [e, nI_1]
        exact ih (k + 1) (20 + k) (by omega) (by omega) he (fun n' σ1 h => go n' σ1 (by omega))
      · rw [if_neg (fun h => c2 ((lg_cmp_eq _ _).mpr h))] at he
        rw [nI_1]
        exact ih (k + 1) c (by omega) hc he (fun n' σ1 h => go n' σ1 (by omega))
theorem n10_eq (x c : Int32) : ((10 : Int32) * x + c) - 48 = x * 10 + (c - 48) := by
  rw [Int32.mul_comm, Int32.sub_eq_add_neg, Int32.sub_eq_add_neg, Int32.add_assoc]
theorem bz_lt {b : Nat → Int32} {L i : Nat} (h : i < L) : bz b L i = b i := if_pos h
theorem isL_0 : isLt 0 = false := by decide
theorem isD_0 : isD 0 = false := by decide
theorem cutr_loop {b : Nat → Int32} {L d : Nat} {TT : List Tk} : ∀ (n s i : Nat) (σ : Sg), RI b L TT s i σ → Pl PRG n d 188 7 [(0, .ref 97), (1, .int (nI i))] [] σ (fun _ σ' => RQ TT σ' ∧ KWr σ') := by
  intro n
  induction n using Nat.strongRecOn with
  | _ n ih =>
    intro s i σ hI
    have hB := hI.2.2.2.1
    have hL := hB.1
    have hiL := hI.2.2.1
    have hs1 := hI.1
    have hs2 := hI.2.1
    have hK := hI.2.2.2.2.1
    -- a name
    have names : i < L → s ≤ 400 → isW (b i) = false → isLt (b i) = true → ∀ (m r : Nat), m < n → i + r ≤ L → (∀ k, k < r → isLt (b (i + k)) = true) → Pl PRG m d 188 85 [(0, .ref 97), (1, .int (nI i)), (3, .int (nI r)), (4, .long (c27 b i (min r 8)))] [] σ (fun _ σ' => RQ TT σ' ∧ KWr σ') := by
      intro hi hs hw h5 m
      induction m with
      | zero => intro r _ _ _; exact Pl.zero
      | succ m ihm =>
        intro r hm hr hall
        refine p_188_85 σ (nI i) (nI r) _ (fun w2 σ1 h1 w4 σ3 h2 _ => ?_)
        rw [nI_add] at h1
        obtain ⟨rfl, rfl⟩ := rc181 h1 hB (by omega)
        obtain ⟨rfl, hz⟩ := rc183 h2
        refine ⟨fun z => ?_, fun z => ?_⟩
        · have hst : ¬ (i + r < L ∧ isLt (b (i + r)) = true) := fun ⟨e1, e2⟩ => by
            have := hz.mp z
            rw [bz_lt e1, e2] at this
            cases this
          have hlr : lrun isLt b (L - i) i = r := lrun_of r i hall hr hst
          have tail : ∀ (C : Nat) (σ5 : Sg) (n' : Nat), n' < m + 1 → C = rk (tk1 b L i).1.1 → ((tk1 b L i).1.1 = 2 → c27 b i (min r 8) = (tk1 b L i).1.2.2.2.2) → RCx PRG n' 186 [.ref 97, .int (nI C), .int (nI i), .int (0 : Int32), .long (c27 b i (min r 8))] σ3 none σ5 → Pl PRG n' d 188 7 [(0, .ref 97), (1, .int (nI i + nI r))] [] σ5 (fun _ σ' => RQ TT σ' ∧ KWr σ') := by
            intro C σ5 n' hn' hC hN hc5
            have e5 := rc186 hc5 hs1 (by omega)
            subst e5
            have h3 : ¬ (tk1 b L i).1.1 = 3 := by
              unfold tk1
              rw [if_pos h5]
              simp only
              split
              · exact kd32_3 _
              · exact (show ¬ (1 : Nat) = 3 by decide)
            have hp : (tk1 b L i).1.2.1 = i ∧ (tk1 b L i).2 = i + r := by
              unfold tk1
              rw [if_pos h5]
              simp only [hlr]
              split <;> exact ⟨rfl, rfl⟩
            have := hI.tok hi hs hw (v := 0) (nm := c27 b i (min r 8)) (fun e => absurd e h3) hN
            rw [hp.1, hp.2, ← hC] at this
            rw [nI_add]
            exact ih n' (by omega) (s + 1) (i + r) _ this
          refine ⟨fun c8 => ?_, fun c8 => ?_⟩
          · have h8 : r ≤ 8 := (nI_leI (b := 8) (by omega) (by decide)).mp c8
            have ht : (tk1 b L i).1 = (kd32 (c32 b i r), i, 0, c32 b i r, c27 b i r) := by
              unfold tk1
              rw [if_pos h5]
              simp only [hlr]
              rw [if_pos h8]
            refine ⟨fun c7 σ5 hc5 => ?_, fun c7 => ?_⟩
            · have h7 : 7 < r := by
                rcases Nat.lt_or_ge 7 r with g | g
                · exact g
                · exact absurd c7 (nI_nlt (a := 7) (b := r) g (by decide))
              obtain rfl : r = 8 := by omega
              exact tail 1 σ5 m (by omega) (by rw [ht]; exact (kd_8 hall).symm) (fun _ => by rw [ht]; rfl) hc5
            · have h7 : r ≤ 7 := by
                rcases Nat.lt_or_ge 7 r with g | g
                · exact absurd (nI_lt g (by omega)) c7
                · exact g
              have hmin : min r 8 = r := by omega
              refine kr_loop (C := kdm kyR 0 (c27 b i (min r 8)) 1) hK (kdm_lt _ _ _ (by decide) (by decide)) m 0 1 (by omega) (by omega) rfl (fun n' σ5 hn' hc5 => ?_)
              refine tail _ σ5 n' (by omega) ?_ (fun _ => by rw [ht, hmin]) hc5
              rw [ht, hmin]
              exact (kd_name (by omega) hall).symm
          · have h8 : 8 < r := nle_of (by omega) (by decide) c8
            refine ⟨fun c7 σ6 hc6 => ?_, fun c7 => ?_⟩
            · have ht : (tk1 b L i).1 = (1, i, 0, 0, 0) := by
                unfold tk1
                rw [if_pos h5]
                simp only [hlr]
                rw [if_neg (by omega)]
              exact tail 3 σ6 m (by omega) (by rw [ht]; rfl) (fun e => by rw [ht] at e; exact absurd e (show ¬ (1 : Nat) = 2 by decide)) hc6
            · exact absurd (nI_lt (a := 7) (b := r) (by omega) (by omega)) c7
        · have hlt : i + r < L := by
            rcases Nat.lt_or_ge (i + r) L with g | g
            · exact g
            · refine absurd (hz.mpr ?_) z
              unfold bz
              rw [if_neg (by omega)]
              exact isL_0
          have hl : isLt (b (i + r)) = true := by
            cases hb : isLt (b (i + r)) with
            | true => rfl
            | false => exact absurd (hz.mpr (by rw [bz_lt hlt]; exact hb)) z
          have hall' : ∀ k, k < r + 1 → isLt (b (i + k)) = true := fun k hk => by
            rcases Nat.lt_or_ge k r with g | g
            · exact hall k g
            · rw [show k = r by omega]; exact hl
          refine ⟨fun c8 => ?_, fun c8 w8 σ7 h8 w10 σ9 h10 => ?_⟩
          · have h8 : 8 ≤ r := (nI_leI (a := 8) (by decide) (by omega)).mp c8
            rw [nI_1, show min r 8 = min (r + 1) 8 by omega]
            exact ihm (r + 1) (by omega) (by omega) hall'
          · have h8r : r < 8 := nle_of (a := 8) (by decide) (by omega) c8
            rw [nI_add] at h8
            obtain ⟨rfl, rfl⟩ := rc181 h8 hB (by omega)
            rw [bz_lt hlt] at h10
            obtain ⟨rfl, rfl⟩ := rc184 h10 (fun e => by rw [e] at hl; exact absurd hl (by decide))
            rw [nI_1, show min r 8 = r by omega]
            have := ihm (r + 1) (by omega) (by omega) hall'
            rw [show min (r + 1) 8 = r + 1 by omega] at this
            exact this
    -- a number
    have nums : i < L → s ≤ 400 → isW (b i) = false → isD (b i) = true → ∀ (m r : Nat), m < n → i + r ≤ L → (∀ k, k < r → isD (b (i + k)) = true) → Pl PRG m d 188 208 [(0, .ref 97), (1, .int (nI i)), (3, .int (nI r)), (4, .int (num10 b i (min r 4)))] [] σ (fun _ σ' => RQ TT σ' ∧ KWr σ') := by
      intro hi hs hw h5 m
      induction m with
      | zero => intro r _ _ _; exact Pl.zero
      | succ m ihm =>
        intro r hm hr hall
        refine p_188_208 σ (nI i) (nI r) _ (fun w2 σ1 h1 w4 σ3 h2 _ => ?_)
        rw [nI_add] at h1
        obtain ⟨rfl, rfl⟩ := rc181 h1 hB (by omega)
        obtain ⟨rfl, hz⟩ := rc182 h2
        refine ⟨fun z => ?_, fun z => ?_⟩
        · have hst : ¬ (i + r < L ∧ isD (b (i + r)) = true) := fun ⟨e1, e2⟩ => by
            have := hz.mp z
            rw [bz_lt e1, e2] at this
            cases this
          have hlr : lrun isD b (L - i) i = r := lrun_of r i hall hr hst
          have tail : ∀ (C : Nat) (σ5 : Sg) (n' : Nat), n' < m + 1 → C = rk (tk1 b L i).1.1 → ((tk1 b L i).1.1 = 3 → num10 b i (min r 4) = (tk1 b L i).1.2.2.1) → RCx PRG n' 186 [.ref 97, .int (nI C), .int (nI i), .int (num10 b i (min r 4)), .long (0 : Int64)] σ3 none σ5 → Pl PRG n' d 188 7 [(0, .ref 97), (1, .int (nI i + nI r))] [] σ5 (fun _ σ' => RQ TT σ' ∧ KWr σ') := by
            intro C σ5 n' hn' hC hN hc5
            have e5 := rc186 hc5 hs1 (by omega)
            subst e5
            have h2 : ¬ (tk1 b L i).1.1 = 2 := by
              unfold tk1
              rw [if_neg (by rw [isLD h5]; exact Bool.false_ne_true), if_pos h5]
              simp only
              split
              · exact (show ¬ (3 : Nat) = 2 by decide)
              · exact (show ¬ (1 : Nat) = 2 by decide)
            have hp : (tk1 b L i).1.2.1 = i ∧ (tk1 b L i).2 = i + r := by
              unfold tk1
              rw [if_neg (by rw [isLD h5]; exact Bool.false_ne_true), if_pos h5]
              simp only [hlr]
              split <;> exact ⟨rfl, rfl⟩
            have := hI.tok hi hs hw (v := num10 b i (min r 4)) (nm := 0) hN (fun e => absurd e h2)
            rw [hp.1, hp.2, ← hC] at this
            rw [nI_add]
            exact ih n' (by omega) (s + 1) (i + r) _ this
          refine ⟨fun c4 σ5 hc5 => ?_, fun c4 σ6 hc6 => ?_⟩
          · have h4 : r ≤ 4 := (nI_leI (b := 4) (by omega) (by decide)).mp c4
            have ht : (tk1 b L i).1 = (3, i, num10 b i r, 0, 0) := by
              unfold tk1
              rw [if_neg (by rw [isLD h5]; exact Bool.false_ne_true), if_pos h5]
              simp only [hlr]
              rw [if_pos h4]
            exact tail 2 σ5 m (by omega) (by rw [ht]; rfl) (fun _ => by rw [ht, show min r 4 = r by omega]) hc5
          · have h4 : 4 < r := nle_of (by omega) (by decide) c4
            have ht : (tk1 b L i).1 = (1, i, 0, 0, 0) := by
              unfold tk1
              rw [if_neg (by rw [isLD h5]; exact Bool.false_ne_true), if_pos h5]
              simp only [hlr]
              rw [if_neg (by omega)]
            exact tail 3 σ6 m (by omega) (by rw [ht]; rfl) (fun e => by rw [ht] at e; exact absurd e (show ¬ (1 : Nat) = 3 by decide)) hc6
        · have hlt : i + r < L := by
            rcases Nat.lt_or_ge (i + r) L with g | g
            · exact g
            · refine absurd (hz.mpr ?_) z
              unfold bz
              rw [if_neg (by omega)]
              exact isD_0
          have hl : isD (b (i + r)) = true := by
            cases hb : isD (b (i + r)) with
            | true => rfl
            | false => exact absurd (hz.mpr (by rw [bz_lt hlt]; exact hb)) z
          have hall' : ∀ k, k < r + 1 → isD (b (i + k)) = true := fun k hk => by
            rcases Nat.lt_or_ge k r with g | g
            · exact hall k g
            · rw [show k = r by omega]; exact hl
          refine ⟨fun c4 => ?_, fun c4 w8 σ7 h8 => ?_⟩
          · have h4 : 4 ≤ r := (nI_leI (a := 4) (by decide) (by omega)).mp c4
            rw [nI_1, show min r 4 = min (r + 1) 4 by omega]
            exact ihm (r + 1) (by omega) (by omega) hall'
          · have h4r : r < 4 := nle_of (a := 4) (by decide) (by omega) c4
            rw [nI_add] at h8
            obtain ⟨rfl, rfl⟩ := rc181 h8 hB (by omega)
            rw [bz_lt hlt, nI_1, show min r 4 = r by omega, n10_eq]
            have := ihm (r + 1) (by omega) (by omega) hall'
            rw [show min (r + 1) 4 = r + 1 by omega] at this
            exact this
    refine Pl.pos (fun m hm => ?_)
    refine p_188_7 σ (nI i) ⟨fun c => ?_, fun c w2 σ1 h1 => ?_⟩
    · rw [hs1] at c
      have hs : 400 < s := by
        rcases Nat.lt_or_ge 400 s with g | g
        · exact g
        · exact absurd c (nI_nlt (a := 400) (b := s) g (by decide))
      exact ⟨fun m t hm' ht => hI.2.2.2.2.2.1 m t (by omega) ht, hK⟩
    · have hs : s ≤ 400 := by
        rcases Nat.lt_or_ge 400 s with g | g
        · rw [hs1] at c
          exact absurd (nI_lt g (by omega)) c
        · exact g
      obtain ⟨rfl, rfl⟩ := rc181 h1 hB (by omega)
      rw [hB.2.1]
      refine ⟨fun cl => ?_, fun cl σ11 h11 => ?_⟩
      · have hi : i < L := by
          rcases Nat.lt_or_ge i L with g | g
          · exact g
          · exact absurd cl (nI_nlt g (by omega))
        rw [bz_lt hi]
        have bl : isW (b i) = true → Pl PRG m d 188 7 [(0, .ref 97), (1, .int (nI i + (1 : Int32)))] [] σ1 (fun _ σ' => RQ TT σ' ∧ KWr σ') := fun hw => by
          rw [nI_1]
          exact ih m (by omega) s (i + 1) σ1 (hI.blank hi hw)
        refine ⟨fun e => bl (by rw [e]; rfl), fun n9 => ⟨fun e => bl (by rw [e]; rfl), fun n10 => ⟨fun e => bl (by rw [e]; rfl), fun n13 => ⟨fun e => bl (by rw [e]; rfl), fun n32 w4 σ3 h4 _ => ?_⟩⟩⟩⟩
        have hwF := isW_of n9 n10 n13 n32
        obtain ⟨rfl, hz⟩ := rc183 h4
        refine ⟨fun z w6 σ5 h6 _ => ?_, fun z => ?_⟩
        · have hl := hz.mp z
          obtain ⟨rfl, hz6⟩ := rc182 h6
          refine ⟨fun z6 w8 σ7 h8 w10 σ9 h10 => ?_, fun z6 => ?_⟩
          · have hd := hz6.mp z6
            rw [nI_1] at h8
            obtain ⟨rfl, rfl⟩ := rc181 h8 hB (by omega)
            obtain ⟨e9, e10⟩ := rc187 h10 hs1 (by omega)
            have he : decide (bz b L (i + 1) = 61) = (decide (i + 1 < L) && decide (b (i + 1) = 61)) := by
              by_cases g : i + 1 < L
              · rw [bz_lt g, decide_eq_true g, Bool.true_and]
              · unfold bz
                rw [if_neg g, decide_eq_false g, Bool.false_and]
                decide
            rw [he] at e9 e10
            have ht : tk1 b L i = ((sgk (b i) (decide (i + 1 < L) && decide (b (i + 1) = 61)), i, 0, 0, 0), if twoK (sgk (b i) (decide (i + 1 < L) && decide (b (i + 1) = 61))) then i + 2 else i + 1) := by
              unfold tk1
              rw [if_neg (by rw [hl]; exact Bool.false_ne_true), if_neg (by rw [hd]; exact Bool.false_ne_true)]
            have hk1 : ¬ (tk1 b L i).1.1 = 3 ∧ ¬ (tk1 b L i).1.1 = 2 := by
              rw [ht]
              simp only
              unfold sgk
              repeat' split
              all_goals decide
            have := hI.tok hi hs hwF (v := 0) (nm := 0) (fun e => absurd e hk1.1) (fun e => absurd e hk1.2)
            rw [ht] at this
            simp only at this
            subst e9
            have e11 : nI i + w10 = nI (if twoK (sgk (b i) (decide (i + 1 < L) && decide (b (i + 1) = 61))) then i + 2 else i + 1) := by
              rw [e10]
              split
              · show nI i + nI 2 = _
                rw [nI_add]
              · exact nI_1 _
            rw [e11]
            exact ih m (by omega) (s + 1) _ _ this
          · have hd : isD (b i) = true := by
              cases hb : isD (b i) with
              | true => rfl
              | false => exact absurd (hz6.mpr hb) z6
            exact nums hi hs hwF hd m 0 (by omega) (by omega) (fun k hk => absurd hk (Nat.not_lt_zero _))
        · have hl : isLt (b i) = true := by
            cases hb : isLt (b i) with
            | true => rfl
            | false => exact absurd (hz.mpr hb) z
          exact names hi hs hwF hl m 0 (by omega) (by omega) (fun k hk => absurd hk (Nat.not_lt_zero _))
      · have hi : L ≤ i := by
          rcases Nat.lt_or_ge i L with g | g
          · exact absurd (nI_lt g (by omega)) cl
          · exact g
        have e := rc186 h11 hs1 (by omega)
        rw [e]
        exact ⟨hI.end hi, hK.tn⟩
theorem rc188 {n : Nat} {b : Nat → Int32} {L : Nat} {σ σ1 : Sg} (h : RCx PRG n 188 [.ref 97] σ none σ1) (hB : BR b L σ) (hk : KWr σ) : RQ (toks b L (L + 1) 0) σ1 ∧ KWr σ1 :=
  h.by (Q := fun _ σ' => RQ (toks b L (L + 1) 0) σ' ∧ KWr σ') (fun m d => p_188_0 σ (cutr_loop m 0 0 _ ⟨s1_on, by omega, by omega, ⟨hB.1, by rw [s1_off (by omega)]; exact hB.2.1, fun i hi => by rw [s1_off (by omega)]; exact hB.2.2 i hi⟩, hk, fun m t hm => absurd hm (Nat.not_lt_zero _), [], L + 1, rfl, rfl, by omega⟩))
