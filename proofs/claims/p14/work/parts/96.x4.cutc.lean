/-! the class cuts a text into tokens -/
theorem RCx.by {P : List MI} {n mj : Nat} {av : List Value} {σ σ' : Sg} {v : Option Value} {Q : Option Value → Sg → Prop} (h : RCx P n mj av σ v σ') (hc : ∀ m d, Pl P (m + 1) d mj 0 (lv_args 0 av) [] σ Q) : Q v σ' := by
  obtain ⟨m, d, -, hr⟩ := h
  exact hc m d m (Nat.lt_succ_self m) v σ' hr
theorem Pl.pos {P : List MI} {n d mi pc : Nat} {ls : Lcl} {st : List Value} {σ : Sg} {Q : Option Value → Sg → Prop} (h : ∀ m, n = m + 1 → Pl P (m + 1) d mi pc ls st σ Q) : Pl P n d mi pc ls st σ Q := by
  cases n with
  | zero => exact Pl.zero
  | succ m => exact h m rfl
theorem nI_subI {a b : Nat} (h : b ≤ a) : nI a - nI b = nI (a - b) := by
  have := nI_add (a - b) b
  rw [Nat.sub_add_cancel h] at this
  rw [← this, Int32.add_sub_cancel]
theorem rc91 {n : Nat} {x w : Int32} {σ σ1 : Sg} (h : RCx PRG n 91 [.int x] σ (some (.int w)) σ1) : σ1 = σ ∧ (w = 0 ↔ isLt x = false) := by
  have := h.by (Q := fun v s => s = σ ∧ ∃ w : Int32, v = some (.int w) ∧ (w = 0 ↔ isLt x = false)) (fun m d => p_91_0 σ x ⟨fun c => ⟨rfl, _, rfl, fun _ => by unfold isLt; rw [decide_eq_true c]; rfl, fun _ => rfl⟩, fun c => ⟨fun c2 => ⟨rfl, _, rfl, fun _ => by unfold isLt; rw [decide_eq_true c2, Bool.not_true, Bool.and_false], fun _ => rfl⟩, fun c2 => ⟨rfl, _, rfl, fun e => absurd e (by decide), fun e => by unfold isLt at e; rw [decide_eq_false c, decide_eq_false c2] at e; cases e⟩⟩⟩)
  obtain ⟨h1, w', h2, h3⟩ := this
  cases h2
  exact ⟨h1, h3⟩
theorem rc95 {n : Nat} {x w : Int32} {σ σ1 : Sg} (h : RCx PRG n 95 [.int x] σ (some (.int w)) σ1) : σ1 = σ ∧ (w = 0 ↔ isD x = false) := by
  have := h.by (Q := fun v s => s = σ ∧ ∃ w : Int32, v = some (.int w) ∧ (w = 0 ↔ isD x = false)) (fun m d => p_95_0 σ x ⟨fun c => ⟨rfl, _, rfl, fun _ => by unfold isD; rw [decide_eq_true c]; rfl, fun _ => rfl⟩, fun c => ⟨fun c2 => ⟨rfl, _, rfl, fun _ => by unfold isD; rw [decide_eq_true c2, Bool.not_true, Bool.and_false], fun _ => rfl⟩, fun c2 => ⟨rfl, _, rfl, fun e => absurd e (by decide), fun e => by unfold isD at e; rw [decide_eq_false c, decide_eq_false c2] at e; cases e⟩⟩⟩)
  obtain ⟨h1, w', h2, h3⟩ := this
  cases h2
  exact ⟨h1, h3⟩
def ntS (σ : Sg) (s : Nat) (k : Int32) (v : Int64) (a : Int32) : Sg := s1 (s1 (s2 (s1 σ 18 s k) 20 s v) 19 s a) 17 4 (nI (s + 1))
theorem rc92 {n s : Nat} {k a : Int32} {v : Int64} {σ σ1 : Sg} (h : RCx PRG n 92 [.ref 17, .int k, .long v, .int a] σ none σ1) (hs : σ.1 17 4 = nI s) (hs2 : s < 402) : σ1 = ntS σ s k v a := by
  have e : (σ.1 17 4).toNatClampNeg = s := by rw [hs, nI_clamp (by omega)]
  refine h.by (Q := fun _ s' => s' = ntS σ s k v a) (fun m d => p_92_0 σ k a v ⟨fun c => ?_, fun _ _ _ _ => ?_⟩)
  · rw [hs] at c
    exact absurd ((nI_leI (a := 402) (by decide) (by omega)).mp c) (by omega)
  · show _ = ntS σ s k v a
    rw [e, hs, nI_1]
    rfl
/-- the words in quotes, as the class holds them -/
def KWc (σ : Sg) : Prop := ∀ j, j < 22 → σ.2 21 j = wdl.getD j 0
theorem wdl_drop {j : Nat} (h : j < 22) : wdl.drop j = wdl.getD j 0 :: wdl.drop (j + 1) := by
  have hl : j < wdl.length := h
  rw [List.drop_eq_getElem_cons hl, List.getD_eq_getElem?_getD, List.getElem?_eq_getElem hl]
  rfl
theorem kw_loop {x : Int64} {σ : Sg} (hk : KWc σ) {d : Nat} : ∀ (n j : Nat), j ≤ 22 → Pl PRG n d 93 2 [(0, .ref 17), (1, .long x), (3, .int (nI j))] [] σ (fun v s => s = σ ∧ v = some (.int (nI (kdx (wdl.drop j) j x)))) := by
  intro n
  induction n with
  | zero => intro j _; exact Pl.zero
  | succ n ih =>
    intro j hj
    refine p_93_2 σ (nI j) x ⟨fun c => ⟨rfl, ?_⟩, fun c hi => ?_⟩
    · have hj2 : 22 ≤ j := (nI_leI (a := 22) (by decide) (by omega)).mp c
      obtain rfl : j = 22 := by omega
      rfl
    · have hj2 : j < 22 := by
        rcases Nat.lt_or_ge j 22 with g | g
        · exact g
        · exact absurd ((nI_leI (a := 22) (by decide) (by omega)).mpr g) c
      rw [nI_clamp (by omega), hk j hj2, wdl_drop hj2]
      refine ⟨fun c2 => ⟨rfl, ?_⟩, fun c2 => ?_⟩
      · have e : wdl.getD j 0 = x := (lg_cmp_eq _ _).mp c2
        unfold kdx
        rw [if_pos e]
        show some (Value.int (nI 15 + nI j)) = _
        rw [nI_add]
      · have e : ¬ wdl.getD j 0 = x := fun h => c2 ((lg_cmp_eq _ _).mpr h)
        unfold kdx
        rw [if_neg e, nI_1]
        exact ih (j + 1) (by omega)
theorem rc93 {n : Nat} {x : Int64} {w : Int32} {σ σ1 : Sg} (h : RCx PRG n 93 [.ref 17, .long x] σ (some (.int w)) σ1) (hk : KWc σ) : σ1 = σ ∧ w = nI (kd32 x) := by
  obtain ⟨h1, h2⟩ := h.by (Q := fun v s => s = σ ∧ v = some (.int (nI (kdx (wdl.drop 0) 0 x)))) (fun m d => p_93_0 σ x (kw_loop hk m 0 (by omega)))
  cases h2
  exact ⟨h1, rfl⟩
def BC (b : Nat → Int32) (L : Nat) (σ : Sg) : Prop := L ≤ 2000 ∧ ∀ i, i < L → σ.1 1 i &&& 255 = b i
theorem nle_of {a b : Nat} (ha : a < 2 ^ 31) (hb : b < 2 ^ 31) (h : ¬ nI a ≤ nI b) : b < a := by
  rcases Nat.lt_or_ge b a with g | g
  · exact g
  · exact absurd ((nI_leI ha hb).mpr g) h
/-- what cutName and cutInt leave: the token, and where to go on -/
def cutQ (σ : Sg) (s L : Nat) (t : Tk) (j : Nat) (x : Int64) (v : Option Value) (σ' : Sg) : Prop := σ' = ntS σ s (nI t.1) x (nI t.2.1) ∧ (t.1 = 1 ∧ v = some (.int (nI L)) ∨ ¬ t.1 = 1 ∧ v = some (.int (nI j)))
theorem kd32_ne (x : Int64) : ¬ kd32 x = 1 := by
  have := kdx_ge wdl 0 x
  unfold kd32
  omega
theorem kd32_3 (x : Int64) : ¬ kd32 x = 3 := by
  have : ∀ (l : List Int64) (j : Nat), ¬ kdx l j x = 3 := by
    intro l
    induction l with
    | nil => intro j h; exact absurd h (show ¬ (2 : Nat) = 3 by decide)
    | cons w l ih =>
      intro j h
      unfold kdx at h
      split at h
      · omega
      · exact ih _ h
  exact this _ _
theorem min8 {e i : Nat} (h : i ≤ e) : (e - i < 8 → min (e - i) 8 = e - i ∧ min (e + 1 - i) 8 = e - i + 1) ∧ (8 ≤ e - i → min (e - i) 8 = 8 ∧ min (e + 1 - i) 8 = 8) := by
  constructor <;> intro h <;> constructor <;> omega
theorem cn_loop {b : Nat → Int32} {L i s d : Nat} {σ : Sg} (hB : BC b L σ) (hk : KWc σ) (hs : σ.1 17 4 = nI s) (hs2 : s < 402) (h5 : isLt (b i) = true) (x : Int64) (hx : (tk1 b L i).1.1 = 2 → x = (tk1 b L i).1.2.2.2.1) (ex : ∀ e n, i ≤ e → e ≤ L → (∀ k, k < e - i → isLt (b (i + k)) = true) → ¬ (e < L ∧ isLt (b e) = true) → Pl PRG n d 94 71 [(0, .ref 17), (2, .int (nI L)), (3, .int (nI i)), (4, .long (c32 b i (min (e - i) 8))), (6, .int (nI e))] [] σ (cutQ σ s L (tk1 b L i).1 (tk1 b L i).2 x)) : ∀ n e, i ≤ e → e ≤ L → (∀ k, k < e - i → isLt (b (i + k)) = true) → Pl PRG n d 94 6 [(0, .ref 17), (1, .ref 1), (2, .int (nI L)), (3, .int (nI i)), (4, .long (c32 b i (min (e - i) 8))), (6, .int (nI e))] [] σ (cutQ σ s L (tk1 b L i).1 (tk1 b L i).2 x) := by
  have hL := hB.1
  intro n
  induction n using Nat.strongRecOn with
  | _ n ih =>
    intro e h1 h2 h3
    refine Pl.pos (fun m hm => ?_)
    subst hm
    refine p_94_6 σ (nI L) (nI i) (nI e) _ ⟨fun c => ?_, fun c => ⟨fun c2 => ?_, fun c2 hi w2 σ1 hw _ => ⟨fun c3 => ?_, fun c3 => ?_⟩⟩⟩
    · have := (nI_leI (a := L) (b := e) (by omega) (by omega)).mp c
      exact ex e m h1 h2 h3 (by omega)
    · have := (nI_leI (a := 2000) (b := e) (by decide) (by omega)).mp c2
      exact ex e m h1 h2 h3 (by omega)
    · have he : e < L := nle_of (by omega) (by omega) c
      rw [nI_clamp (by omega), hB.2 e he] at hw
      obtain ⟨rfl, hz⟩ := rc91 hw
      have hf := hz.mp c3
      exact ex e m h1 h2 h3 (fun h => by rw [hf] at h; cases h.2)
    · have he : e < L := nle_of (by omega) (by omega) c
      rw [nI_clamp (by omega), hB.2 e he] at hw
      obtain ⟨rfl, hz⟩ := rc91 hw
      have hf : isLt (b e) = true := by
        cases hb : isLt (b e) with
        | true => rfl
        | false => exact absurd (hz.mpr hb) c3
      have h3' : ∀ k, k < e + 1 - i → isLt (b (i + k)) = true := fun k hk => by
        rcases Nat.lt_or_ge k (e - i) with g | g
        · exact h3 k g
        · rw [show i + k = e by omega]; exact hf
      have go : ∀ y, y = c32 b i (min (e + 1 - i) 8) → Pl PRG m d 94 65 [(0, .ref 17), (1, .ref 1), (2, .int (nI L)), (3, .int (nI i)), (4, .long y), (6, .int (nI e))] [] σ1 (cutQ σ1 s L (tk1 b L i).1 (tk1 b L i).2 x) := by
        intro y hy
        refine Pl.pos (fun m2 hm2 => ?_)
        refine p_94_65 σ1 (nI L) (nI i) (nI e) y ?_
        rw [nI_1, hy]
        exact ih m2 (by omega) (e + 1) (by omega) (by omega) h3'
      refine ⟨fun c4 => ?_, fun c4 hi2 => ?_⟩
      · rw [nI_subI h1] at c4
        have := (nI_leI (a := 8) (b := e - i) (by decide) (by omega)).mp c4
        refine go _ ?_
        rw [((min8 h1).2 this).1, ((min8 h1).2 this).2]
      · rw [nI_subI h1] at c4
        have := nle_of (a := 8) (b := e - i) (by decide) (by omega) c4
        refine go _ ?_
        rw [nI_clamp (by omega), hB.2 e he, ((min8 h1).1 (by omega)).1, ((min8 h1).1 (by omega)).2]
        show _ = c32 b i (e - i) * (Int64.ofNat 32) + ((b (i + (e - i)) - 97) + 1).toInt64
        rw [show i + (e - i) = e by omega]
theorem rc94 {n : Nat} {b : Nat → Int32} {L i s : Nat} {w : Int32} {σ σ1 : Sg} (h : RCx PRG n 94 [.ref 17, .ref 1, .int (nI L), .int (nI i)] σ (some (.int w)) σ1) (hB : BC b L σ) (hk : KWc σ) (hs : σ.1 17 4 = nI s) (hs2 : s < 402) (hi : i < L) (h5 : isLt (b i) = true) : ∃ x, σ1 = ntS σ s (nI (tk1 b L i).1.1) x (nI (tk1 b L i).1.2.1) ∧ ((tk1 b L i).1.1 = 2 → x = (tk1 b L i).1.2.2.2.1) ∧ ((tk1 b L i).1.1 = 1 ∧ w = nI L ∨ ¬ (tk1 b L i).1.1 = 1 ∧ w = nI (tk1 b L i).2) := by
  obtain ⟨x, hx, hall⟩ : ∃ x, ((tk1 b L i).1.1 = 2 → x = (tk1 b L i).1.2.2.2.1) ∧ ∀ d e n, i ≤ e → e ≤ L → (∀ k, k < e - i → isLt (b (i + k)) = true) → ¬ (e < L ∧ isLt (b e) = true) → Pl PRG n d 94 71 [(0, .ref 17), (2, .int (nI L)), (3, .int (nI i)), (4, .long (c32 b i (min (e - i) 8))), (6, .int (nI e))] [] σ (cutQ σ s L (tk1 b L i).1 (tk1 b L i).2 x) := by
    have hr := lrun_is (p := isLt) (b := b) (L - i) i rfl (by omega)
    have one : ∀ (d e n : Nat), i ≤ e → e ≤ L → (∀ k, k < e - i → isLt (b (i + k)) = true) → ¬ (e < L ∧ isLt (b e) = true) → e = i + lrun isLt b (L - i) i := by
      intro d e n h1 h2 h3 h4
      have : lrun isLt b (L - i) i = e - i := lrun_of (e - i) i h3 (by omega) (by rw [show i + (e - i) = e by omega]; exact h4)
      omega
    rcases Nat.lt_or_ge 8 (lrun isLt b (L - i) i) with g | g
    · refine ⟨0, fun h => ?_, fun d e n h1 h2 h3 h4 => ?_⟩
      · unfold tk1 at h
        rw [if_pos h5] at h
        simp only at h
        rw [if_neg (by omega)] at h
        exact absurd h (show ¬ (1 : Nat) = 2 by decide)
      · have he := one d e n h1 h2 h3 h4
        have hL := hB.1
        have ht : tk1 b L i = ((1, i, 0, 0, 0), i + lrun isLt b (L - i) i) := by
          unfold tk1
          rw [if_pos h5]
          simp only
          rw [if_neg (by omega)]
        refine Pl.pos (fun m _ => p_94_71 σ (nI L) (nI i) (nI e) _ ⟨fun c => ?_, fun c σ4 hn => ?_⟩)
        · rw [nI_subI h1] at c
          exact absurd ((nI_leI (b := 8) (by omega) (by decide)).mp c) (by omega)
        · rw [ht]
          exact ⟨rc92 hn hs hs2, Or.inl ⟨rfl, rfl⟩⟩
    · have ht : tk1 b L i = ((kd32 (c32 b i (lrun isLt b (L - i) i)), i, 0, c32 b i (lrun isLt b (L - i) i), c27 b i (lrun isLt b (L - i) i)), i + lrun isLt b (L - i) i) := by
        unfold tk1
        rw [if_pos h5]
        simp only
        rw [if_pos g]
      refine ⟨c32 b i (lrun isLt b (L - i) i), fun h => by rw [ht], fun d e n h1 h2 h3 h4 => ?_⟩
      have he := one d e n h1 h2 h3 h4
      have hL := hB.1
      have hei : e - i = lrun isLt b (L - i) i := by omega
      refine Pl.pos (fun m _ => p_94_71 σ (nI L) (nI i) (nI e) _ ⟨fun c w2 σ1 hw σ3 hn => ?_, fun c => ?_⟩)
      · rw [hei, Nat.min_eq_left g] at hw hn
        obtain ⟨rfl, rfl⟩ := rc93 hw hk
        rw [ht]
        refine ⟨rc92 hn hs hs2, Or.inr ⟨kd32_ne _, ?_⟩⟩
        rw [he]
      · rw [nI_subI h1] at c
        exact absurd ((nI_leI (b := 8) (by omega) (by decide)).mpr (by omega)) c
  have hq := h.by (Q := cutQ σ s L (tk1 b L i).1 (tk1 b L i).2 x) (fun m d => p_94_0 σ (nI L) (nI i) (by
    have := cn_loop hB hk hs hs2 h5 x hx (hall d) m i (Nat.le_refl i) (by omega) (fun k hk => absurd hk (by omega))
    rw [Nat.sub_self] at this
    exact this))
  obtain ⟨h1, h2⟩ := hq
  refine ⟨x, h1, hx, ?_⟩
  rcases h2 with ⟨a, e⟩ | ⟨a, e⟩
  · cases e; exact Or.inl ⟨a, rfl⟩
  · cases e; exact Or.inr ⟨a, rfl⟩
/-! numbers -/
theorem ci_loop {b : Nat → Int32} {L i s d : Nat} {σ : Sg} (hB : BC b L σ) (h5 : isD (b i) = true) {Q : Option Value → Sg → Prop} (ex : ∀ e n, i ≤ e → e ≤ L → (∀ k, k < e - i → isD (b (i + k)) = true) → ¬ (e < L ∧ isD (b e) = true) → Pl PRG n d 96 66 [(0, .ref 17), (2, .int (nI L)), (3, .int (nI i)), (4, .int (num10 b i (min (e - i) 4))), (5, .int (nI e))] [] σ Q) : ∀ n e, i ≤ e → e ≤ L → (∀ k, k < e - i → isD (b (i + k)) = true) → Pl PRG n d 96 6 [(0, .ref 17), (1, .ref 1), (2, .int (nI L)), (3, .int (nI i)), (4, .int (num10 b i (min (e - i) 4))), (5, .int (nI e))] [] σ Q := by
  have hL := hB.1
  intro n
  induction n using Nat.strongRecOn with
  | _ n ih =>
    intro e h1 h2 h3
    refine Pl.pos (fun m hm => ?_)
    subst hm
    refine p_96_6 σ (nI L) (nI i) _ (nI e) ⟨fun c => ?_, fun c => ⟨fun c2 => ?_, fun c2 hi w2 σ1 hw _ => ⟨fun c3 => ?_, fun c3 => ?_⟩⟩⟩
    · have := (nI_leI (a := L) (b := e) (by omega) (by omega)).mp c
      exact ex e m h1 h2 h3 (by omega)
    · have := (nI_leI (a := 2000) (b := e) (by decide) (by omega)).mp c2
      exact ex e m h1 h2 h3 (by omega)
    · have he : e < L := nle_of (by omega) (by omega) c
      rw [nI_clamp (by omega), hB.2 e he] at hw
      obtain ⟨rfl, hz⟩ := rc95 hw
      have hf := hz.mp c3
      exact ex e m h1 h2 h3 (fun h => by rw [hf] at h; cases h.2)
    · have he : e < L := nle_of (by omega) (by omega) c
      rw [nI_clamp (by omega), hB.2 e he] at hw
      obtain ⟨rfl, hz⟩ := rc95 hw
      have hf : isD (b e) = true := by
        cases hb : isD (b e) with
        | true => rfl
        | false => exact absurd (hz.mpr hb) c3
      have h3' : ∀ k, k < e + 1 - i → isD (b (i + k)) = true := fun k hk => by
        rcases Nat.lt_or_ge k (e - i) with g | g
        · exact h3 k g
        · rw [show i + k = e by omega]; exact hf
      have go : ∀ y, y = num10 b i (min (e + 1 - i) 4) → Pl PRG m d 96 60 [(0, .ref 17), (1, .ref 1), (2, .int (nI L)), (3, .int (nI i)), (4, .int y), (5, .int (nI e))] [] σ1 Q := by
        intro y hy
        refine Pl.pos (fun m2 hm2 => ?_)
        refine p_96_60 σ1 (nI L) (nI i) y (nI e) ?_
        rw [nI_1, hy]
        exact ih m2 (by omega) (e + 1) (by omega) (by omega) h3'
      refine ⟨fun c4 => ?_, fun c4 hi2 => ?_⟩
      · rw [nI_subI h1] at c4
        have := (nI_leI (a := 4) (b := e - i) (by decide) (by omega)).mp c4
        refine go _ ?_
        rw [show min (e - i) 4 = 4 by omega, show min (e + 1 - i) 4 = 4 by omega]
      · rw [nI_subI h1] at c4
        have := nle_of (a := 4) (b := e - i) (by decide) (by omega) c4
        refine go _ ?_
        rw [nI_clamp (by omega), hB.2 e he, show min (e - i) 4 = e - i by omega, show min (e + 1 - i) 4 = e - i + 1 by omega]
        show _ = num10 b i (e - i) * 10 + (b (i + (e - i)) - 48)
        rw [show i + (e - i) = e by omega]
theorem isLD {c : Int32} (h : isD c = true) : isLt c = false := by
  cases hl : isLt c with
  | false => rfl
  | true =>
    have := isL_rg hl
    unfold isD at h
    simp only [Bool.and_eq_true, Bool.not_eq_true', decide_eq_false_iff_not] at h
    obtain ⟨h1, h2⟩ := h
    rw [Int32.lt_iff_toInt_lt] at h1 h2
    have k2 : (57 : Int32).toInt = 57 := by decide
    omega
theorem rc96 {n : Nat} {b : Nat → Int32} {L i s : Nat} {w : Int32} {σ σ1 : Sg} (h : RCx PRG n 96 [.ref 17, .ref 1, .int (nI L), .int (nI i)] σ (some (.int w)) σ1) (hB : BC b L σ) (hs : σ.1 17 4 = nI s) (hs2 : s < 402) (hi : i < L) (h5 : isD (b i) = true) : ∃ x, σ1 = ntS σ s (nI (tk1 b L i).1.1) x (nI (tk1 b L i).1.2.1) ∧ ((tk1 b L i).1.1 = 3 → x = (tk1 b L i).1.2.2.1.toInt64) ∧ ((tk1 b L i).1.1 = 1 ∧ w = nI L ∨ (tk1 b L i).1.1 = 3 ∧ w = nI (tk1 b L i).2) := by
  have hL := hB.1
  have one : ∀ e, i ≤ e → e ≤ L → (∀ k, k < e - i → isD (b (i + k)) = true) → ¬ (e < L ∧ isD (b e) = true) → e = i + lrun isD b (L - i) i := by
    intro e h1 h2 h3 h4
    have : lrun isD b (L - i) i = e - i := lrun_of (e - i) i h3 (by omega) (by rw [show i + (e - i) = e by omega]; exact h4)
    omega
  rcases Nat.lt_or_ge 4 (lrun isD b (L - i) i) with g | g
  · have ht : tk1 b L i = ((1, i, 0, 0, 0), i + lrun isD b (L - i) i) := by
      unfold tk1
      rw [if_neg (by rw [isLD h5]; exact Bool.false_ne_true), if_pos h5]
      simp only
      rw [if_neg (by omega)]
    rw [ht]
    have hq := h.by (Q := fun v s' => s' = ntS σ s 1 0 (nI i) ∧ v = some (.int (nI L))) (fun m d => p_96_0 σ (nI L) (nI i) (by
      have := ci_loop (s := s) (d := d) hB h5 (Q := fun v s' => s' = ntS σ s 1 0 (nI i) ∧ v = some (.int (nI L))) (fun e n h1 h2 h3 h4 => by
        have he := one e h1 h2 h3 h4
        refine Pl.pos (fun m _ => p_96_66 σ (nI L) (nI i) _ (nI e) ⟨fun c => ?_, fun c σ4 hn => ?_⟩)
        · rw [nI_subI h1] at c
          exact absurd ((nI_leI (b := 4) (by omega) (by decide)).mp c) (by omega)
        · exact ⟨rc92 hn hs hs2, rfl⟩) m i (Nat.le_refl i) (by omega) (fun k hk => absurd hk (by omega))
      rw [Nat.sub_self] at this
      exact this))
    obtain ⟨h1, h2⟩ := hq
    cases h2
    exact ⟨0, h1, fun h => absurd h (show ¬ (1 : Nat) = 3 by decide), Or.inl ⟨rfl, rfl⟩⟩
  · have ht : tk1 b L i = ((3, i, num10 b i (lrun isD b (L - i) i), 0, 0), i + lrun isD b (L - i) i) := by
      unfold tk1
      rw [if_neg (by rw [isLD h5]; exact Bool.false_ne_true), if_pos h5]
      simp only
      rw [if_pos g]
    rw [ht]
    have hq := h.by (Q := fun v s' => s' = ntS σ s 3 (num10 b i (lrun isD b (L - i) i)).toInt64 (nI i) ∧ v = some (.int (nI (i + lrun isD b (L - i) i)))) (fun m d => p_96_0 σ (nI L) (nI i) (by
      have := ci_loop (s := s) (d := d) hB h5 (Q := fun v s' => s' = ntS σ s 3 (num10 b i (lrun isD b (L - i) i)).toInt64 (nI i) ∧ v = some (.int (nI (i + lrun isD b (L - i) i)))) (fun e n h1 h2 h3 h4 => by
        have he := one e h1 h2 h3 h4
        have hei : e - i = lrun isD b (L - i) i := by omega
        refine Pl.pos (fun m _ => p_96_66 σ (nI L) (nI i) _ (nI e) ⟨fun c σ3 hn => ?_, fun c => ?_⟩)
        · rw [hei, Nat.min_eq_left g] at hn
          refine ⟨rc92 hn hs hs2, ?_⟩
          rw [he]
        · rw [nI_subI h1] at c
          exact absurd ((nI_leI (b := 4) (by omega) (by decide)).mpr (by omega)) c) m i (Nat.le_refl i) (by omega) (fun k hk => absurd hk (by omega))
      rw [Nat.sub_self] at this
      exact this))
    obtain ⟨h1, h2⟩ := hq
    cases h2
    exact ⟨_, h1, fun _ => rfl, Or.inr ⟨rfl, rfl⟩⟩
/-! signs -/
theorem sgk_out {x : Int32} (h : x.toInt < 33 ∨ 61 < x.toInt) (e : Bool) : sgk x e = 1 := by
  have ne : ∀ k : Int32, 33 ≤ k.toInt → k.toInt ≤ 61 → ¬ x = k := fun k h1 h2 e => by rw [e] at h; omega
  unfold sgk
  rw [if_neg (ne 59 (by decide) (by decide)), if_neg (ne 43 (by decide) (by decide)), if_neg (ne 45 (by decide) (by decide)), if_neg (ne 42 (by decide) (by decide)), if_neg (ne 47 (by decide) (by decide)), if_neg (ne 40 (by decide) (by decide)), if_neg (ne 41 (by decide) (by decide)), if_neg (ne 60 (by decide) (by decide)), if_neg (ne 61 (by decide) (by decide)), if_neg (ne 33 (by decide) (by decide))]
theorem rc97 {n : Nat} {x y w : Int32} {σ σ1 : Sg} (h : RCx PRG n 97 [.int x, .int y] σ (some (.int w)) σ1) : σ1 = σ ∧ w = nI (sgk x (decide (¬ y = 0))) := by
  obtain ⟨h1, h2⟩ := h.by (Q := fun v s => s = σ ∧ v = some (.int (nI (sgk x (decide (¬ y = 0)))))) (fun m d => p_97_0 σ x y ⟨fun c => ⟨rfl, by rw [sgk_out c]; rfl⟩,
    fun c => by
      have e : x = 33 := Int32.toInt_inj.mp (by rw [c]; decide)
      subst e
      exact ⟨fun c2 => ⟨rfl, by rw [show decide (¬ y = 0) = false by simp [c2]]; rfl⟩, fun c2 => ⟨rfl, by rw [show decide (¬ y = 0) = true by simp [c2]]; rfl⟩⟩,
    fun c => by
      have e : x = 34 := Int32.toInt_inj.mp (by rw [c]; decide)
      subst e
      exact ⟨rfl, by rw [show sgk 34 (decide (¬ y = 0)) = 1 from (by decide : ∀ e : Bool, sgk 34 e = 1) _]; rfl⟩,
    fun c => by
      have e : x = 35 := Int32.toInt_inj.mp (by rw [c]; decide)
      subst e
      exact ⟨rfl, by rw [show sgk 35 (decide (¬ y = 0)) = 1 from (by decide : ∀ e : Bool, sgk 35 e = 1) _]; rfl⟩,
    fun c => by
      have e : x = 36 := Int32.toInt_inj.mp (by rw [c]; decide)
      subst e
      exact ⟨rfl, by rw [show sgk 36 (decide (¬ y = 0)) = 1 from (by decide : ∀ e : Bool, sgk 36 e = 1) _]; rfl⟩,
    fun c => by
      have e : x = 37 := Int32.toInt_inj.mp (by rw [c]; decide)
      subst e
      exact ⟨rfl, by rw [show sgk 37 (decide (¬ y = 0)) = 1 from (by decide : ∀ e : Bool, sgk 37 e = 1) _]; rfl⟩,
    fun c => by
      have e : x = 38 := Int32.toInt_inj.mp (by rw [c]; decide)
      subst e
      exact ⟨rfl, by rw [show sgk 38 (decide (¬ y = 0)) = 1 from (by decide : ∀ e : Bool, sgk 38 e = 1) _]; rfl⟩,
    fun c => by
      have e : x = 39 := Int32.toInt_inj.mp (by rw [c]; decide)
      subst e
      exact ⟨rfl, by rw [show sgk 39 (decide (¬ y = 0)) = 1 from (by decide : ∀ e : Bool, sgk 39 e = 1) _]; rfl⟩,
    fun c => by
      have e : x = 40 := Int32.toInt_inj.mp (by rw [c]; decide)
      subst e
      exact ⟨rfl, by rw [show sgk 40 (decide (¬ y = 0)) = 13 from (by decide : ∀ e : Bool, sgk 40 e = 13) _]; rfl⟩,
    fun c => by
      have e : x = 41 := Int32.toInt_inj.mp (by rw [c]; decide)
      subst e
      exact ⟨rfl, by rw [show sgk 41 (decide (¬ y = 0)) = 14 from (by decide : ∀ e : Bool, sgk 41 e = 14) _]; rfl⟩,
    fun c => by
      have e : x = 42 := Int32.toInt_inj.mp (by rw [c]; decide)
      subst e
      exact ⟨rfl, by rw [show sgk 42 (decide (¬ y = 0)) = 7 from (by decide : ∀ e : Bool, sgk 42 e = 7) _]; rfl⟩,
    fun c => by
      have e : x = 43 := Int32.toInt_inj.mp (by rw [c]; decide)
      subst e
      exact ⟨rfl, by rw [show sgk 43 (decide (¬ y = 0)) = 5 from (by decide : ∀ e : Bool, sgk 43 e = 5) _]; rfl⟩,
    fun c => by
      have e : x = 44 := Int32.toInt_inj.mp (by rw [c]; decide)
      subst e
      exact ⟨rfl, by rw [show sgk 44 (decide (¬ y = 0)) = 1 from (by decide : ∀ e : Bool, sgk 44 e = 1) _]; rfl⟩,
    fun c => by
      have e : x = 45 := Int32.toInt_inj.mp (by rw [c]; decide)
      subst e
      exact ⟨rfl, by rw [show sgk 45 (decide (¬ y = 0)) = 6 from (by decide : ∀ e : Bool, sgk 45 e = 6) _]; rfl⟩,
    fun c => by
      have e : x = 46 := Int32.toInt_inj.mp (by rw [c]; decide)
      subst e
      exact ⟨rfl, by rw [show sgk 46 (decide (¬ y = 0)) = 1 from (by decide : ∀ e : Bool, sgk 46 e = 1) _]; rfl⟩,
    fun c => by
      have e : x = 47 := Int32.toInt_inj.mp (by rw [c]; decide)
      subst e
      exact ⟨rfl, by rw [show sgk 47 (decide (¬ y = 0)) = 8 from (by decide : ∀ e : Bool, sgk 47 e = 8) _]; rfl⟩,
    fun c => by
      have e : x = 48 := Int32.toInt_inj.mp (by rw [c]; decide)
      subst e
      exact ⟨rfl, by rw [show sgk 48 (decide (¬ y = 0)) = 1 from (by decide : ∀ e : Bool, sgk 48 e = 1) _]; rfl⟩,
    fun c => by
      have e : x = 49 := Int32.toInt_inj.mp (by rw [c]; decide)
      subst e
      exact ⟨rfl, by rw [show sgk 49 (decide (¬ y = 0)) = 1 from (by decide : ∀ e : Bool, sgk 49 e = 1) _]; rfl⟩,
    fun c => by
      have e : x = 50 := Int32.toInt_inj.mp (by rw [c]; decide)
      subst e
      exact ⟨rfl, by rw [show sgk 50 (decide (¬ y = 0)) = 1 from (by decide : ∀ e : Bool, sgk 50 e = 1) _]; rfl⟩,
    fun c => by
      have e : x = 51 := Int32.toInt_inj.mp (by rw [c]; decide)
      subst e
      exact ⟨rfl, by rw [show sgk 51 (decide (¬ y = 0)) = 1 from (by decide : ∀ e : Bool, sgk 51 e = 1) _]; rfl⟩,
    fun c => by
      have e : x = 52 := Int32.toInt_inj.mp (by rw [c]; decide)
      subst e
      exact ⟨rfl, by rw [show sgk 52 (decide (¬ y = 0)) = 1 from (by decide : ∀ e : Bool, sgk 52 e = 1) _]; rfl⟩,
    fun c => by
      have e : x = 53 := Int32.toInt_inj.mp (by rw [c]; decide)
      subst e
      exact ⟨rfl, by rw [show sgk 53 (decide (¬ y = 0)) = 1 from (by decide : ∀ e : Bool, sgk 53 e = 1) _]; rfl⟩,
    fun c => by
      have e : x = 54 := Int32.toInt_inj.mp (by rw [c]; decide)
      subst e
      exact ⟨rfl, by rw [show sgk 54 (decide (¬ y = 0)) = 1 from (by decide : ∀ e : Bool, sgk 54 e = 1) _]; rfl⟩,
    fun c => by
      have e : x = 55 := Int32.toInt_inj.mp (by rw [c]; decide)
      subst e
      exact ⟨rfl, by rw [show sgk 55 (decide (¬ y = 0)) = 1 from (by decide : ∀ e : Bool, sgk 55 e = 1) _]; rfl⟩,
    fun c => by
      have e : x = 56 := Int32.toInt_inj.mp (by rw [c]; decide)
      subst e
      exact ⟨rfl, by rw [show sgk 56 (decide (¬ y = 0)) = 1 from (by decide : ∀ e : Bool, sgk 56 e = 1) _]; rfl⟩,
    fun c => by
      have e : x = 57 := Int32.toInt_inj.mp (by rw [c]; decide)
      subst e
      exact ⟨rfl, by rw [show sgk 57 (decide (¬ y = 0)) = 1 from (by decide : ∀ e : Bool, sgk 57 e = 1) _]; rfl⟩,
    fun c => by
      have e : x = 58 := Int32.toInt_inj.mp (by rw [c]; decide)
      subst e
      exact ⟨rfl, by rw [show sgk 58 (decide (¬ y = 0)) = 1 from (by decide : ∀ e : Bool, sgk 58 e = 1) _]; rfl⟩,
    fun c => by
      have e : x = 59 := Int32.toInt_inj.mp (by rw [c]; decide)
      subst e
      exact ⟨rfl, by rw [show sgk 59 (decide (¬ y = 0)) = 4 from (by decide : ∀ e : Bool, sgk 59 e = 4) _]; rfl⟩,
    fun c => by
      have e : x = 60 := Int32.toInt_inj.mp (by rw [c]; decide)
      subst e
      exact ⟨fun c2 => ⟨rfl, by rw [show decide (¬ y = 0) = false by simp [c2]]; rfl⟩, fun c2 => ⟨rfl, by rw [show decide (¬ y = 0) = true by simp [c2]]; rfl⟩⟩,
    fun c => by
      have e : x = 61 := Int32.toInt_inj.mp (by rw [c]; decide)
      subst e
      exact ⟨fun c2 => ⟨rfl, by rw [show decide (¬ y = 0) = false by simp [c2]]; rfl⟩, fun c2 => ⟨rfl, by rw [show decide (¬ y = 0) = true by simp [c2]]; rfl⟩⟩⟩)
  cases h2
  exact ⟨h1, rfl⟩
theorem sg_tail {m d i L k : Nat} {σ6 : Sg} {Q : Option Value → Sg → Prop} (hk : k < 100) (h1 : k = 1 → Q (some (.int (nI L))) σ6) (h2 : ¬ k = 1 → twoK k = true → Q (some (.int (nI (i + 2)))) σ6) (h3 : ¬ k = 1 → twoK k = false → Q (some (.int (nI (i + 1)))) σ6) : ((nI k = (1 : Int32) → Q (some (.int (nI L))) σ6) ∧ (¬ nI k = (1 : Int32) → ((nI k = (9 : Int32) → Pl PRG m d 98 91 [(3, .int (nI i))] [] σ6 Q) ∧ (¬ nI k = (9 : Int32) → ((nI k = (10 : Int32) → Pl PRG m d 98 91 [(3, .int (nI i))] [] σ6 Q) ∧ (¬ nI k = (10 : Int32) → ((nI k = (12 : Int32) → Pl PRG m d 98 91 [(3, .int (nI i))] [] σ6 Q) ∧ (¬ nI k = (12 : Int32) → Q (some (.int (nI i + (1 : Int32)))) σ6)))))))) := by
  have iff : ∀ j, j < 100 → (nI k = nI j ↔ k = j) := fun j hj => nI_eq (by omega) (by omega)
  have go : twoK k = true → ¬ k = 1 → Pl PRG m d 98 91 [(3, .int (nI i))] [] σ6 Q := fun ht hn => Pl.pos (fun m2 _ => p_98_91 σ6 (nI i) (by
    show Q (some (.int (nI i + nI 2))) σ6
    rw [nI_add]
    exact h2 hn ht))
  refine ⟨fun c => h1 ((iff 1 (by decide)).mp c), fun c => ⟨fun c2 => ?_, fun c2 => ⟨fun c3 => ?_, fun c3 => ⟨fun c4 => ?_, fun c4 => ?_⟩⟩⟩⟩
  · exact go (by rw [(iff 9 (by decide)).mp c2]; rfl) (fun e => c ((iff 1 (by decide)).mpr e))
  · exact go (by rw [(iff 10 (by decide)).mp c3]; rfl) (fun e => c ((iff 1 (by decide)).mpr e))
  · exact go (by rw [(iff 12 (by decide)).mp c4]; rfl) (fun e => c ((iff 1 (by decide)).mpr e))
  · rw [nI_1]
    refine h3 (fun e => c ((iff 1 (by decide)).mpr e)) ?_
    unfold twoK
    rw [decide_eq_false (fun e => c2 ((iff 9 (by decide)).mpr e)), decide_eq_false (fun e => c3 ((iff 10 (by decide)).mpr e)), decide_eq_false (fun e => c4 ((iff 12 (by decide)).mpr e))]
    rfl
theorem sgk_lt (c : Int32) (e : Bool) : sgk c e < 100 := by
  unfold sgk
  repeat' split
  all_goals decide
theorem two_f (c : Int32) : twoK (sgk c false) = false := by
  unfold sgk
  repeat' split
  all_goals first | rfl | contradiction
theorem rc98 {n : Nat} {b : Nat → Int32} {L i s : Nat} {w : Int32} {σ σ1 : Sg} (h : RCx PRG n 98 [.ref 17, .ref 1, .int (nI L), .int (nI i)] σ (some (.int w)) σ1) (hB : BC b L σ) (hs : σ.1 17 4 = nI s) (hs2 : s < 402) (hi : i < L) (h5 : isLt (b i) = false) (h6 : isD (b i) = false) : σ1 = ntS σ s (nI (tk1 b L i).1.1) 0 (nI (tk1 b L i).1.2.1) ∧ ((tk1 b L i).1.1 = 1 ∧ w = nI L ∨ ¬ (tk1 b L i).1.1 = 1 ∧ w = nI (tk1 b L i).2) := by
  have hL := hB.1
  have ht : tk1 b L i = ((sgk (b i) (decide (i + 1 < L) && decide (b (i + 1) = 61)), i, 0, 0, 0), if twoK (sgk (b i) (decide (i + 1 < L) && decide (b (i + 1) = 61))) then i + 2 else i + 1) := by
    unfold tk1
    rw [if_neg (by rw [h5]; exact Bool.false_ne_true), if_neg (by rw [h6]; exact Bool.false_ne_true)]
  have fin : ∀ (m d : Nat) (e : Bool) (y w2 : Int32) (σ2 σ3 : Sg), (decide (i + 1 < L) && decide (b (i + 1) = 61)) = e → decide (¬ y = 0) = e → RCx PRG m 97 [.int (b i), .int y] σ (some (.int w2)) σ2 → RCx PRG m 92 [.ref 17, .int w2, .long (0 : Int64), .int (nI i)] σ2 none σ3 → ((w2 = (1 : Int32) → cutQ σ s L (tk1 b L i).1 (tk1 b L i).2 0 (some (.int (nI L))) σ3) ∧ (¬ w2 = (1 : Int32) → ((w2 = (9 : Int32) → Pl PRG m d 98 91 [(3, .int (nI i))] [] σ3 (cutQ σ s L (tk1 b L i).1 (tk1 b L i).2 0)) ∧ (¬ w2 = (9 : Int32) → ((w2 = (10 : Int32) → Pl PRG m d 98 91 [(3, .int (nI i))] [] σ3 (cutQ σ s L (tk1 b L i).1 (tk1 b L i).2 0)) ∧ (¬ w2 = (10 : Int32) → ((w2 = (12 : Int32) → Pl PRG m d 98 91 [(3, .int (nI i))] [] σ3 (cutQ σ s L (tk1 b L i).1 (tk1 b L i).2 0)) ∧ (¬ w2 = (12 : Int32) → cutQ σ s L (tk1 b L i).1 (tk1 b L i).2 0 (some (.int (nI i + (1 : Int32)))) σ3)))))))) := by
    intro m d e y w2 σ2 σ3 he hy hw hn
    obtain ⟨rfl, rfl⟩ := rc97 hw
    have hn2 := rc92 hn hs hs2
    rw [hy] at hn2 ⊢
    rw [ht, he]
    subst hn2
    refine sg_tail (sgk_lt _ _) (fun e1 => ⟨rfl, Or.inl ⟨e1, rfl⟩⟩) (fun e1 e2 => ⟨rfl, Or.inr ⟨e1, ?_⟩⟩) (fun e1 e2 => ⟨rfl, Or.inr ⟨e1, ?_⟩⟩)
    · simp only [e2, if_true]
    · simp only [e2, Bool.false_eq_true, if_false]
  have at27 : ∀ (m d : Nat), ¬ (i + 1 < L) → Pl PRG m d 98 27 [(0, .ref 17), (1, .ref 1), (2, .int (nI L)), (3, .int (nI i))] [] σ (cutQ σ s L (tk1 b L i).1 (tk1 b L i).2 0) := fun m d hc => Pl.pos (fun m2 _ => p_98_27 σ (nI L) (nI i) (fun _ w2 σ2 hw σ3 hn => by
    rw [nI_clamp (by omega), hB.2 i hi] at hw
    exact fin m2 d false 0 w2 σ2 σ3 (by rw [decide_eq_false hc]; rfl) (by decide) hw hn))
  have hq := h.by (Q := cutQ σ s L (tk1 b L i).1 (tk1 b L i).2 0) (fun m d => p_98_0 σ (nI L) (nI i) ⟨fun c => ?_, fun c => ⟨fun c2 => ?_, fun c2 _ _ => ⟨fun c3 w5 σ4 hw σ6 hn => ?_, fun c3 w5 σ4 hw σ6 hn => ?_⟩⟩⟩)
  · obtain ⟨h1, h2⟩ := hq
    refine ⟨h1, ?_⟩
    rcases h2 with ⟨a, e⟩ | ⟨a, e⟩
    · cases e; exact Or.inl ⟨a, rfl⟩
    · cases e; exact Or.inr ⟨a, rfl⟩
  · rw [nI_1] at c
    have := (nI_leI (a := L) (b := i + 1) (by omega) (by omega)).mp c
    exact at27 m d (by omega)
  · rw [nI_1] at c2
    have := (nI_leI (a := 2000) (b := i + 1) (by decide) (by omega)).mp c2
    exact at27 m d (by omega)
  · rw [nI_1] at c c3
    have hl : i + 1 < L := nle_of (by omega) (by omega) c
    rw [nI_clamp (by omega), hB.2 _ hl] at c3
    rw [nI_clamp (by omega), hB.2 i hi] at hw
    exact fin m d true 1 w5 σ4 σ6 (by rw [decide_eq_true hl, decide_eq_true c3]; rfl) (by decide) hw hn
  · rw [nI_1] at c c3
    have hl : i + 1 < L := nle_of (by omega) (by omega) c
    rw [nI_clamp (by omega), hB.2 _ hl] at c3
    rw [nI_clamp (by omega), hB.2 i hi] at hw
    exact fin m d false 0 w5 σ4 σ6 (by rw [decide_eq_false c3, Bool.and_false]) (by decide) hw hn
/-! the whole text -/
theorem tk1_next {b : Nat → Int32} {L i : Nat} (hi : i < L) : i < (tk1 b L i).2 ∧ (tk1 b L i).2 ≤ L := by
  unfold tk1
  split
  · rename_i h5
    obtain ⟨h1, h2, h3⟩ := lrun_is (p := isLt) (b := b) (L - i) i rfl (by omega)
    have h4 : 1 ≤ lrun isLt b (L - i) i := by
      rcases Nat.eq_zero_or_pos (lrun isLt b (L - i) i) with g | g
      · rw [g] at h3
        exact absurd ⟨by omega, h5⟩ h3
      · exact g
    simp only
    split <;> exact ⟨by show i < i + _; omega, h2⟩
  · split
    · rename_i h5
      obtain ⟨h1, h2, h3⟩ := lrun_is (p := isD) (b := b) (L - i) i rfl (by omega)
      have h4 : 1 ≤ lrun isD b (L - i) i := by
        rcases Nat.eq_zero_or_pos (lrun isD b (L - i) i) with g | g
        · rw [g] at h3
          exact absurd ⟨by omega, h5⟩ h3
        · exact g
      simp only
      split <;> exact ⟨by show i < i + _; omega, h2⟩
    · simp only
      by_cases hl : i + 1 < L
      · split <;> constructor <;> omega
      · rw [decide_eq_false hl, Bool.false_and, two_f]
        simp only [Bool.false_eq_true, if_false]
        omega
def GB (TT : List Tk) (m : Nat) : Prop := ∀ j t, j < m → TT[j]? = some t → ¬ t.1 = 1
def recC (σ : Sg) (m : Nat) (t : Tk) : Prop := σ.1 18 m = nI t.1 ∧ σ.1 19 m = nI t.2.1 ∧ (t.1 = 3 → σ.2 20 m = t.2.2.1.toInt64) ∧ (t.1 = 2 → σ.2 20 m = t.2.2.2.1)
def CQ (TT : List Tk) (σ : Sg) : Prop := ∀ m t, m ≤ 400 → TT[m]? = some t → GB TT m → recC σ m t
section Nt
variable {σ : Sg} {s : Nat} {k a : Int32} {v : Int64}
theorem ntS_x {q j : Nat} (h : ¬ q = 17 ∧ ¬ q = 18 ∧ ¬ q = 19) : (ntS σ s k v a).1 q j = σ.1 q j := by
  unfold ntS
  rw [s1_off (fun e => h.1 e.1), s1_off (fun e => h.2.2 e.1)]
  show (s1 σ 18 s k).1 q j = _
  exact s1_off (fun e => h.2.1 e.1)
theorem ntS_18 {j : Nat} : (ntS σ s k v a).1 18 j = if j = s then k else σ.1 18 j := by
  unfold ntS
  rw [s1_off (by omega), s1_off (by omega)]
  show (s1 σ 18 s k).1 18 j = _
  by_cases e : j = s
  · subst e; rw [s1_on, if_pos rfl]
  · rw [s1_off (fun h => e h.2), if_neg e]
theorem ntS_19 {j : Nat} : (ntS σ s k v a).1 19 j = if j = s then a else σ.1 19 j := by
  unfold ntS
  rw [s1_off (by omega)]
  by_cases e : j = s
  · subst e; rw [s1_on, if_pos rfl]
  · rw [s1_off (fun h => e h.2), if_neg e]
    show (s1 σ 18 s k).1 19 j = _
    exact s1_off (by omega)
theorem ntS_20 {j : Nat} : (ntS σ s k v a).2 20 j = if j = s then v else σ.2 20 j := by
  show (if (20 : Nat) = 20 ∧ j = s then v else σ.2 20 j) = _
  by_cases e : j = s
  · rw [if_pos ⟨rfl, e⟩, if_pos e]
  · rw [if_neg (fun h => e h.2), if_neg e]
theorem ntS_2 {q j : Nat} (h : ¬ q = 20) : (ntS σ s k v a).2 q j = σ.2 q j := by
  show (if q = 20 ∧ j = s then v else σ.2 q j) = _
  rw [if_neg (fun e => h e.1)]
theorem ntS_n : (ntS σ s k v a).1 17 4 = nI (s + 1) := by
  unfold ntS
  exact s1_on
theorem ntS_old {m : Nat} {t : Tk} (h : recC σ m t) (hm : ¬ m = s) : recC (ntS σ s k v a) m t := by
  obtain ⟨h1, h2, h3, h4⟩ := h
  refine ⟨by rw [ntS_18, if_neg hm]; exact h1, by rw [ntS_19, if_neg hm]; exact h2, fun e => by rw [ntS_20, if_neg hm]; exact h3 e, fun e => by rw [ntS_20, if_neg hm]; exact h4 e⟩
theorem ntS_new {t : Tk} (h3 : t.1 = 3 → v = t.2.2.1.toInt64) (h4 : t.1 = 2 → v = t.2.2.2.1) : recC (ntS σ s (nI t.1) v (nI t.2.1)) s t :=
  ⟨by rw [ntS_18, if_pos rfl], by rw [ntS_19, if_pos rfl], fun e => by rw [ntS_20, if_pos rfl]; exact h3 e, fun e => by rw [ntS_20, if_pos rfl]; exact h4 e⟩
theorem BC.nt {b : Nat → Int32} {L : Nat} (h : BC b L σ) : BC b L (ntS σ s k v a) := ⟨h.1, fun i hi => by rw [ntS_x (by decide)]; exact h.2 i hi⟩
theorem KWc.nt (h : KWc σ) : KWc (ntS σ s k v a) := fun j hj => by rw [ntS_2 (by decide)]; exact h j hj
end Nt
/-- between twoK tokens -/
def CI (b : Nat → Int32) (L : Nat) (TT : List Tk) (s i : Nat) (σ : Sg) : Prop := σ.1 17 4 = nI s ∧ s ≤ 401 ∧ i ≤ L ∧ BC b L σ ∧ KWc σ ∧ (∀ m t, m < s → TT[m]? = some t → GB TT m → recC σ m t) ∧ ((∃ pre f, TT = pre ++ toks b L f i ∧ pre.length = s ∧ L - i < f) ∨ (i = L ∧ ¬ GB TT s))
theorem CI.end {b : Nat → Int32} {L : Nat} {TT : List Tk} {s i : Nat} {σ : Sg} (h : CI b L TT s i σ) (he : L ≤ i ∨ 400 < s) : CQ TT (ntS σ s 0 0 (nI L)) := by
  obtain ⟨h1, h2, h3, h4, h5, h6, h7⟩ := h
  intro m t hm ht hg
  rcases Nat.lt_or_ge m s with g | g
  · exact ntS_old (h6 m t g ht hg) (by omega)
  · rcases h7 with ⟨pre, f, e1, e2, e3⟩ | ⟨e1, e2⟩
    · have hi : L ≤ i := by omega
      cases f with
      | zero => omega
      | succ f =>
        have e4 : toks b L (f + 1) i = [(0, L, 0, 0, 0)] := by
          unfold toks
          rw [if_pos hi]
        rw [e1, e4, List.getElem?_append_right (by omega), e2] at ht
        have hms : m - s = 0 := by
          rcases Nat.eq_zero_or_pos (m - s) with z | z
          · exact z
          · rw [List.getElem?_eq_none (by simp; omega)] at ht
            cases ht
        rw [hms] at ht
        have : m = s := by omega
        subst this
        cases ht
        exact ntS_new (t := (0, L, 0, 0, 0)) (fun e => absurd e (show ¬ (0 : Nat) = 3 by decide)) (fun e => absurd e (show ¬ (0 : Nat) = 2 by decide))
    · exact absurd (fun j t' hj ht' => hg j t' (by omega) ht') e2
theorem CI.tok {b : Nat → Int32} {L : Nat} {TT : List Tk} {s i : Nat} {σ : Sg} (h : CI b L TT s i σ) (hi : i < L) (hs : s ≤ 400) (hw : isW (b i) = false) {x : Int64} (h3 : (tk1 b L i).1.1 = 3 → x = (tk1 b L i).1.2.2.1.toInt64) (h2 : (tk1 b L i).1.1 = 2 → x = (tk1 b L i).1.2.2.2.1) : ((tk1 b L i).1.1 = 1 → CI b L TT (s + 1) L (ntS σ s (nI (tk1 b L i).1.1) x (nI (tk1 b L i).1.2.1))) ∧ (¬ (tk1 b L i).1.1 = 1 → CI b L TT (s + 1) (tk1 b L i).2 (ntS σ s (nI (tk1 b L i).1.1) x (nI (tk1 b L i).1.2.1))) := by
  obtain ⟨a1, a2, a3, a4, a5, a6, a7⟩ := h
  rcases a7 with ⟨pre, f, e1, e2, e3⟩ | ⟨e1, e2⟩
  · cases f with
    | zero => omega
    | succ f =>
      have e4 : toks b L (f + 1) i = (tk1 b L i).1 :: toks b L f (tk1 b L i).2 := by
        show (if L ≤ i then _ else if isW (b i) then _ else _) = _
        rw [if_neg (by omega), hw]
        rfl
      rw [e4] at e1
      have hat : TT[s]? = some (tk1 b L i).1 := by
        rw [e1, List.getElem?_append_right (by omega), e2, Nat.sub_self]
        rfl
      have hnx := tk1_next (b := b) hi
      have rcd : ∀ m t, m < s + 1 → TT[m]? = some t → GB TT m → recC (ntS σ s (nI (tk1 b L i).1.1) x (nI (tk1 b L i).1.2.1)) m t := by
        intro m t hm ht hg
        rcases Nat.lt_or_ge m s with g | g
        · exact ntS_old (a6 m t g ht hg) (by omega)
        · have : m = s := by omega
          subst this
          rw [hat] at ht
          cases ht
          exact ntS_new h3 h2
      refine ⟨fun hb => ⟨ntS_n, by omega, Nat.le_refl _, a4.nt, a5.nt, rcd, Or.inr ⟨rfl, fun hg => hg s _ (by omega) hat hb⟩⟩, fun hb => ⟨ntS_n, by omega, hnx.2, a4.nt, a5.nt, rcd, Or.inl ⟨pre ++ [(tk1 b L i).1], f, ?_, by simp [e2], by omega⟩⟩⟩
      rw [e1, List.append_assoc]
      rfl
  · omega
theorem CI.blank {b : Nat → Int32} {L : Nat} {TT : List Tk} {s i : Nat} {σ : Sg} (h : CI b L TT s i σ) (hi : i < L) (hw : isW (b i) = true) : CI b L TT s (i + 1) σ := by
  obtain ⟨a1, a2, a3, a4, a5, a6, a7⟩ := h
  refine ⟨a1, a2, by omega, a4, a5, a6, ?_⟩
  rcases a7 with ⟨pre, f, e1, e2, e3⟩ | ⟨e1, e2⟩
  · cases f with
    | zero => omega
    | succ f =>
      refine Or.inl ⟨pre, f, ?_, e2, by omega⟩
      have e4 : toks b L (f + 1) i = toks b L f (i + 1) := by
        show (if L ≤ i then _ else if isW (b i) then _ else _) = _
        rw [if_neg (by omega), if_pos hw]
      rw [e1, e4]
  · omega
theorem isW_of {c : Int32} (h1 : ¬ c = 9) (h2 : ¬ c = 10) (h3 : ¬ c = 13) (h4 : ¬ c = 32) : isW c = false := by
  unfold isW
  rw [decide_eq_false h1, decide_eq_false h2, decide_eq_false h3, decide_eq_false h4]
  rfl
theorem cutc_loop {b : Nat → Int32} {L d : Nat} {TT : List Tk} : ∀ (n s i k : Nat) (σ : Sg), CI b L TT s i σ → k ≤ i → Pl PRG n d 99 10 [(0, .ref 17), (1, .ref 1), (2, .int (nI L)), (3, .int (nI i)), (4, .int (nI k))] [] σ (fun _ σ' => CQ TT σ') := by
  intro n
  induction n using Nat.strongRecOn with
  | _ n ih =>
    intro s i k σ hI hki
    have hL := hI.2.2.2.1.1
    have hiL := hI.2.2.1
    have hs1 := hI.1
    have hs2 := hI.2.1
    have hB := hI.2.2.2.1
    have hK := hI.2.2.2.2.1
    have fin : ∀ m, (L ≤ i ∨ 400 < s) → Pl PRG m d 99 134 [(0, .ref 17), (2, .int (nI L))] [] σ (fun _ σ' => CQ TT σ') := fun m he => Pl.pos (fun m2 _ => p_99_134 σ (nI L) (fun σ1 hn => by
      rw [rc92 hn hs1 (by omega)]
      exact hI.end he))
    have on : ∀ (m : Nat), m < n → ∀ (σ' : Sg) (j : Nat), (CI b L TT s j σ' ∨ CI b L TT (s + 1) j σ') → i < j → Pl PRG m d 99 128 [(0, .ref 17), (1, .ref 1), (2, .int (nI L)), (3, .int (nI j)), (4, .int (nI k))] [] σ' (fun _ σ' => CQ TT σ') := fun m hm σ' j hj hij => Pl.pos (fun m2 hm2 => p_99_128 σ' (nI L) (nI j) (nI k) (by
      rw [nI_1]
      rcases hj with hj | hj
      · exact ih m2 (by omega) s j (k + 1) σ' hj (by omega)
      · exact ih m2 (by omega) (s + 1) j (k + 1) σ' hj (by omega)))
    have bl : ∀ (m : Nat), m < n → i < L → isW (b i) = true → Pl PRG m d 99 76 [(0, .ref 17), (1, .ref 1), (2, .int (nI L)), (3, .int (nI i)), (4, .int (nI k))] [] σ (fun _ σ' => CQ TT σ') := fun m hm hi hw => Pl.pos (fun m2 hm2 => p_99_76 σ (nI L) (nI i) (nI k) (by
      rw [nI_1]
      exact on m2 (by omega) σ (i + 1) (Or.inl (hI.blank hi hw)) (by omega)))
    refine Pl.pos (fun m hm => ?_)
    refine p_99_10 σ (nI L) (nI i) (nI k) ⟨fun c => ?_, fun c => ⟨fun c2 => ?_, fun c2 => ⟨fun c3 => ?_, fun c3 => ⟨fun c4 => ?_, fun c4 _ => ?_⟩⟩⟩⟩
    · have := (nI_leI (a := 2000) (b := k) (by decide) (by omega)).mp c
      exact fin m (Or.inl (by omega))
    · have := (nI_leI (a := L) (b := i) (by omega) (by omega)).mp c2
      exact fin m (Or.inl this)
    · have := (nI_leI (a := 2000) (b := i) (by decide) (by omega)).mp c3
      exact fin m (Or.inl (by omega))
    · rw [hs1] at c4
      refine fin m (Or.inr ?_)
      rcases Nat.lt_or_ge 400 s with g | g
      · exact g
      · exact absurd c4 (nI_nlt (a := 400) (b := s) g (by decide))
    · have hi : i < L := nle_of (by omega) (by omega) c2
      have hs : s ≤ 400 := by
        rcases Nat.lt_or_ge 400 s with g | g
        · rw [hs1] at c4
          exact absurd (nI_lt g (by omega)) c4
        · exact g
      rw [nI_clamp (by omega), hB.2 i hi]
      refine ⟨fun e => bl m (by omega) hi (by rw [e]; rfl), fun n9 => ⟨fun e => bl m (by omega) hi (by rw [e]; rfl), fun n10 => ⟨fun e => bl m (by omega) hi (by rw [e]; rfl), fun n13 => ⟨fun e => bl m (by omega) hi (by rw [e]; rfl), fun n32 w2 σ1 hw _ => ?_⟩⟩⟩⟩
      have hwF := isW_of n9 n10 n13 n32
      obtain ⟨rfl, hz⟩ := rc91 hw
      have hnx := tk1_next (b := b) hi
      refine ⟨fun z w4 σ3 hw4 _ => ?_, fun z w10 σ9 hw10 => ?_⟩
      · have hl := hz.mp z
        obtain ⟨rfl, hz4⟩ := rc95 hw4
        refine ⟨fun z4 w6 σ5 hw6 => ?_, fun z4 w8 σ7 hw8 => ?_⟩
        · have hd := hz4.mp z4
          obtain ⟨e5, e6⟩ := rc98 hw6 hB hs1 (by omega) hi hl hd
          have hk1 : ¬ (tk1 b L i).1.1 = 3 ∧ ¬ (tk1 b L i).1.1 = 2 := by
            unfold tk1
            rw [if_neg (by rw [hl]; exact Bool.false_ne_true), if_neg (by rw [hd]; exact Bool.false_ne_true)]
            simp only
            unfold sgk
            repeat' split
            all_goals decide
          obtain ⟨t1, t2⟩ := hI.tok hi hs hwF (x := 0) (fun e => absurd e hk1.1) (fun e => absurd e hk1.2)
          subst e5
          rcases e6 with ⟨a, rfl⟩ | ⟨a, rfl⟩
          · exact on m (by omega) _ L (Or.inr (t1 a)) hi
          · exact on m (by omega) _ _ (Or.inr (t2 a)) hnx.1
        · have hd : isD (b i) = true := by
            cases hb : isD (b i) with
            | true => rfl
            | false => exact absurd (hz4.mpr hb) z4
          obtain ⟨x, e5, e7, e6⟩ := rc96 hw8 hB hs1 (by omega) hi hd
          have hk1 : ¬ (tk1 b L i).1.1 = 2 := by
            rcases e6 with ⟨a, -⟩ | ⟨a, -⟩ <;> omega
          obtain ⟨t1, t2⟩ := hI.tok hi hs hwF (x := x) e7 (fun e => absurd e hk1)
          subst e5
          rcases e6 with ⟨a, rfl⟩ | ⟨a, rfl⟩
          · exact on m (by omega) _ L (Or.inr (t1 a)) hi
          · exact on m (by omega) _ _ (Or.inr (t2 (by omega))) hnx.1
      · have hl : isLt (b i) = true := by
          cases hb : isLt (b i) with
          | true => rfl
          | false => exact absurd (hz.mpr hb) z
        obtain ⟨x, e5, e7, e6⟩ := rc94 hw10 hB hK hs1 (by omega) hi hl
        have hk1 : ¬ (tk1 b L i).1.1 = 3 := by
          unfold tk1
          rw [if_pos hl]
          simp only
          split
          · exact kd32_3 _
          · exact (show ¬ (1 : Nat) = 3 by decide)
        obtain ⟨t1, t2⟩ := hI.tok hi hs hwF (x := x) (fun e => absurd e hk1) e7
        subst e5
        rcases e6 with ⟨a, rfl⟩ | ⟨a, rfl⟩
        · exact on m (by omega) _ L (Or.inr (t1 a)) hi
        · exact on m (by omega) _ _ (Or.inr (t2 a)) hnx.1
theorem rc99 {n : Nat} {b : Nat → Int32} {L : Nat} {σ σ1 : Sg} (h : RCx PRG n 99 [.ref 17, .ref 1, .int (nI L)] σ none σ1) (hB : BC b L σ) (hk : KWc σ) : CQ (toks b L (L + 1) 0) σ1 :=
  h.by (Q := fun _ σ' => CQ (toks b L (L + 1) 0) σ') (fun m d => p_99_0 σ (nI L) (cutc_loop m 0 0 0 _ ⟨s1_on, by omega, by omega, ⟨hB.1, fun i hi => by rw [s1_off (by omega)]; exact hB.2 i hi⟩, hk, fun m t hm => absurd hm (Nat.not_lt_zero _), Or.inl ⟨[], L + 1, rfl, rfl, by omega⟩⟩ (Nat.le_refl _)))
theorem rc100 {n : Nat} {b : Nat → Int32} {L : Nat} {σ σ1 : Sg} (h : RCx PRG n 100 [.ref 15, .ref 1, .int (nI L)] σ none σ1) (hB : BC b L σ) (hk : KWc σ) : CQ (toks b L (L + 1) 0) σ1 :=
  h.by (Q := fun _ σ' => CQ (toks b L (L + 1) 0) σ') (fun m d => p_100_0 σ (nI L) (fun σ1 hc => rc99 hc hB hk))
