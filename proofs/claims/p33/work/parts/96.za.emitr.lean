/-! the reader of the reference writes the programs: a text without fault -/
def wtX (σ : Sg) : List Nat → Prop
  | [] => True
  | w :: W => σ.1 122 W.length = nI (rk w) ∧ wtX σ W
def okW (W : List Nat) : Prop := ∀ w ∈ W, w = 13 ∨ (5 ≤ w ∧ w ≤ 8)
/-- what waits and what came out so far, from a on -/
def rsX (a : Nat) (W : List Nat) (O : Cd) (σ : Sg) : Prop := σ.1 97 41 = nI W.length ∧ wtX σ W ∧ σ.1 97 37 = nI (a + O.length) ∧ cgX σ a O ∧ okW W ∧ a + O.length ≤ 840 ∧ W.length ≤ 64
/-- what a unit, an expression may change -/
def FRx (a : Nat) (σ σ1 : Sg) : Prop := σ1.2 = σ.2 ∧ (∀ q x, ¬ (q = 97 ∧ ((11 ≤ x ∧ x ≤ 16) ∨ x = 37 ∨ x = 41)) → ¬ (120 ≤ q ∧ q ≤ 122) → σ1.1 q x = σ.1 q x) ∧ ∀ x, x < a → σ1.1 120 x = σ.1 120 x ∧ σ1.1 121 x = σ.1 121 x
theorem FRx.refl (a : Nat) (σ : Sg) : FRx a σ σ := ⟨rfl, fun _ _ _ _ => rfl, fun _ _ => ⟨rfl, rfl⟩⟩
theorem FRx.trans {a : Nat} {σ σ1 σ2 : Sg} (h : FRx a σ σ1) (h' : FRx a σ1 σ2) : FRx a σ σ2 := ⟨h'.1.trans h.1, fun q x a b => (h'.2.1 q x a b).trans (h.2.1 q x a b), fun x hx => ⟨(h'.2.2 x hx).1.trans (h.2.2 x hx).1, (h'.2.2 x hx).2.trans (h.2.2 x hx).2⟩⟩
theorem FRx.put {a : Nat} {σ σ1 : Sg} {j : Nat} {x : Int32} (h : FRx a σ σ1) (hj : (11 ≤ j ∧ j ≤ 16) ∨ j = 37 ∨ j = 41) : FRx a σ (s1 σ1 97 j x) := ⟨h.1, fun q y b c => by rw [s1_off (fun e => b ⟨e.1, by rw [e.2]; exact hj⟩)]; exact h.2.1 q y b c, fun y hy => by rw [s1_off (by omega), s1_off (by omega)]; exact h.2.2 y hy⟩
theorem FRx.p122 {a : Nat} {σ σ1 : Sg} {j : Nat} {x : Int32} (h : FRx a σ σ1) : FRx a σ (s1 σ1 122 j x) := ⟨h.1, fun q y b c => by rw [s1_off (fun e => c (by omega))]; exact h.2.1 q y b c, fun y hy => by rw [s1_off (by omega), s1_off (by omega)]; exact h.2.2 y hy⟩
theorem FRx.less {a b : Nat} {σ σ1 : Sg} (h : FRx b σ σ1) (hab : a ≤ b) : FRx a σ σ1 := ⟨h.1, h.2.1, fun x hx => h.2.2 x (by omega)⟩
/-- no more than the place of reading and the fault changed -/
def FRt (σ σ1 : Sg) : Prop := σ1.2 = σ.2 ∧ ∀ q x, ¬ (q = 97 ∧ 11 ≤ x ∧ x ≤ 16) → σ1.1 q x = σ.1 q x
theorem FRt.refl (σ : Sg) : FRt σ σ := ⟨rfl, fun _ _ _ => rfl⟩
theorem FRt.trans {σ σ1 σ2 : Sg} (h : FRt σ σ1) (h' : FRt σ1 σ2) : FRt σ σ2 := ⟨h'.1.trans h.1, fun q x a => (h'.2 q x a).trans (h.2 q x a)⟩
theorem FRt.put {σ σ1 : Sg} {j : Nat} {x : Int32} (h : FRt σ σ1) (hj : 11 ≤ j ∧ j ≤ 16) : FRt σ (s1 σ1 97 j x) := ⟨h.1, fun q y b => by rw [s1_off (fun e => b ⟨e.1, by omega⟩)]; exact h.2 q y b⟩
theorem FRt.x {a : Nat} {σ σ1 : Sg} (h : FRt σ σ1) : FRx a σ σ1 := ⟨h.1, fun q x b _ => h.2 q x (fun e => b ⟨e.1, Or.inl e.2⟩), fun x _ => ⟨h.2 120 x (by omega), h.2 121 x (by omega)⟩⟩
section Tt
variable {n : Nat} {σ σ1 : Sg} {v : Option Value} {x y : Int32}
theorem te189 (h : RCx PRG n 189 [.ref 97, .int x] σ v σ1) : σ1 = σ :=
  h.by (Q := fun _ σ' => σ' = σ) (fun m d => p_189_0 σ x ⟨fun _ _ => ⟨fun _ => rfl, fun _ => rfl⟩, fun _ => rfl⟩)
theorem te190 (h : RCx PRG n 190 [.ref 97, .int x] σ v σ1) : FRt σ σ1 :=
  h.by (Q := fun _ σ' => FRt σ σ') (fun m d => p_190_0 σ x ⟨fun _ _ => ((FRt.refl σ).put (by decide)).put (by decide), fun _ => FRt.refl σ⟩)
theorem te191 (h : RCx PRG n 191 [.ref 97, .int x, .int y] σ v σ1) : FRt σ σ1 := by
  refine h.by (Q := fun _ σ' => FRt σ σ') (fun m d => p_191_0 σ x y (fun _ => ?_))
  have e45 : ∀ m, Pl PRG m d 191 45 [] [] σ (fun _ σ' => FRt σ σ') := fun m => Pl.pos (fun m2 _ => p_191_45 σ (FRt.refl σ))
  have e46 : ∀ m z, Pl PRG m d 191 46 [(0, .ref 97), (1, .int x), (3, .int z)] [] σ (fun _ σ' => FRt σ σ') := fun m z => Pl.pos (fun m2 _ => p_191_46 σ x z (((FRt.refl σ).put (by decide)).put (by decide)))
  exact ⟨fun _ => e45 m, fun _ => ⟨fun _ => e46 m _, fun _ => ⟨fun _ => e45 m, fun _ => ⟨fun _ => ⟨fun _ => e46 m _, fun _ => e45 m⟩, fun _ => e46 m _⟩⟩⟩⟩
theorem te192 (h : RCx PRG n 192 [.ref 97] σ v σ1) : FRt σ σ1 :=
  h.by (Q := fun _ σ' => FRt σ σ') (fun m d => p_192_0 σ ⟨fun _ σ2 h2 => te190 h2, fun _ => (FRt.refl σ).put (by decide)⟩)
theorem te193 (h : RCx PRG n 193 [.ref 97, .int x] σ v σ1) : FRt σ σ1 :=
  h.by (Q := fun _ σ' => FRt σ σ') (fun m d => p_193_0 σ x (fun w2 σ2 h2 _ => by
    have e := te189 h2
    subst e
    exact ⟨fun _ σ3 h3 => te190 h3, fun _ σ3 h3 => te192 h3⟩))
theorem te194 (h : RCx PRG n 194 [.ref 97, .int x, .int y] σ v σ1) : FRt σ σ1 := by
  refine h.by (Q := fun _ σ' => FRt σ σ') (fun m d => ?_)
  have e51 : ∀ m z σ2, FRt σ σ2 → Pl PRG m d 194 51 [(0, .ref 97), (3, .int z)] [] σ2 (fun _ σ' => FRt σ σ') := fun m z σ2 hf => Pl.pos (fun m2 _ => p_194_51 σ2 z (fun σ3 h3 => hf.trans (te192 h3)))
  have e42 : ∀ m z σ2, FRt σ σ2 → Pl PRG m d 194 42 [(0, .ref 97), (3, .int z)] [] σ2 (fun _ σ' => FRt σ σ') := fun m z σ2 hf => Pl.pos (fun m2 _ => p_194_42 σ2 z (fun σ3 h3 => e51 m2 z σ3 (hf.trans (te191 h3))))
  have e15 : ∀ m, Pl PRG m d 194 15 [(0, .ref 97), (1, .int x)] [] σ (fun _ σ' => FRt σ σ') := fun m => Pl.pos (fun m2 _ => p_194_15 σ x (fun σ3 h3 => te190 h3))
  refine p_194_0 σ x y ⟨fun _ => e15 m, fun _ w2 σ2 h2 _ => ?_⟩
  have e := te189 h2
  subst e
  exact ⟨fun _ => e15 m, fun _ _ => ⟨fun _ => e42 m _ _ (FRt.refl _), fun _ => ⟨fun _ => e51 m _ _ (FRt.refl _), fun _ => e42 m _ _ (FRt.refl _)⟩⟩⟩
end Tt
theorem wtX.fr {σ σ1 : Sg} : ∀ {W : List Nat}, wtX σ W → (∀ j, j < W.length → σ1.1 122 j = σ.1 122 j) → wtX σ1 W := by
  intro W
  induction W with
  | nil => intro _ _; trivial
  | cons w W ih =>
    intro h hf
    have hl : (w :: W).length = W.length + 1 := rfl
    exact ⟨(hf _ (by omega)).trans h.1, ih h.2 (fun j hj => hf j (by omega))⟩
theorem rsX.t {a : Nat} {W : List Nat} {O : Cd} {σ σ1 : Sg} (h : rsX a W O σ) (hf : FRt σ σ1) : rsX a W O σ1 := by
  obtain ⟨h1, h2, h3, h4, h5, h6, h7⟩ := h
  exact ⟨(hf.2 97 41 (by omega)).trans h1, h2.fr (fun j _ => hf.2 122 j (by omega)), (hf.2 97 37 (by omega)).trans h3, h4.fr (fun j _ _ => ⟨hf.2 120 j (by omega), hf.2 121 j (by omega)⟩), h5, h6, h7⟩
theorem cgX.app {σ : Sg} : ∀ {p q : Cd} {a : Nat}, cgX σ a p → cgX σ (a + p.length) q → cgX σ a (p ++ q) := by
  intro p
  induction p with
  | nil => intro q a _ h; exact h
  | cons e p ih =>
    intro q a h h'
    have hl : (e :: p).length = p.length + 1 := rfl
    rw [hl, show a + (p.length + 1) = a + 1 + p.length by omega] at h'
    exact ⟨h.1, ih h.2 h'⟩
/-- a code comes out -/
theorem re196 {n a : Nat} {W : List Nat} {O : Cd} {e : Nat × Int32} {x y : Int32} {σ σ1 : Sg} (h : RCx PRG n 196 [.ref 97, .int x, .int y] σ none σ1) (hr : rsX a W O σ) (hx : x = nI (rkC e.1)) (hy : (e.1 = 3 ∨ e.1 = 27) → y = e.2) : rsX a W (O ++ [e]) σ1 ∧ FRx a σ σ1 ∧ sameR σ σ1 := by
  obtain ⟨h1, h2, h3, h4, h5, h6, h7⟩ := hr
  refine h.by (Q := fun _ σ' => rsX a W (O ++ [e]) σ' ∧ FRx a σ σ' ∧ sameR σ σ') (fun m d => p_196_0 σ x y (fun hi _ => ?_))
  have hi' := inR_lo hi
  rw [h3, nI_toInt (by omega)] at hi'
  rw [h3, nI_clamp (by omega), nI_1]
  have hl : (O ++ [e]).length = O.length + 1 := by rw [List.length_append]; rfl
  refine ⟨⟨?_, ?_, ?_, ?_, h5, by rw [hl]; omega, h7⟩, ?_, ?_⟩
  · rw [s1_off (by omega), s1_off (by omega), s1_off (by omega)]; exact h1
  · exact h2.fr (fun j _ => by rw [s1_off (by omega), s1_off (by omega), s1_off (by omega)])
  · rw [s1_on, hl, Nat.add_assoc]
  · refine cgX.app (h4.fr (fun j j1 j2 => ⟨by rw [s1_off (by omega), s1_off (by omega), s1_off (by omega)], by rw [s1_off (by omega), s1_off (by omega), s1_off (by omega)]⟩)) ⟨⟨?_, fun q => ?_⟩, trivial⟩
    · rw [s1_off (by omega), s1_off (by omega), s1_on]; exact hx
    · rw [s1_off (by omega), s1_on]; exact hy q
  · refine ⟨rfl, fun q z b c => ?_, fun z hz => ⟨?_, ?_⟩⟩
    · rw [s1_off (fun e => b ⟨e.1, by omega⟩), s1_off (by omega), s1_off (by omega)]
    · rw [s1_off (by omega), s1_off (by omega), s1_off (by omega)]
    · rw [s1_off (by omega), s1_off (by omega), s1_off (by omega)]
  · intro z z1 z2
    rw [s1_off (by omega), s1_off (by omega), s1_off (by omega)]
theorem rk_w : ∀ w, w < 14 → (w = 13 ∨ (5 ≤ w ∧ w ≤ 8)) → ((nI (rk w) = (6 : Int32) ↔ w = 13) ∧ (nI (rk w) = (8 : Int32) ↔ w = 5) ∧ (nI (rk w) = (9 : Int32) ↔ w = 6) ∧ (nI (rk w) = (10 : Int32) ↔ w = 7)) := by decide
/-- what waits comes out -/
theorem re198 {n a : Nat} {b : Bool} {W : List Nat} {O : Cd} {σ σ1 : Sg} (h : RCx PRG n 198 [.ref 97, .int (b2i b)] σ none σ1) (hr : rsX a W O σ) : rsX a (coX b W O).1 (coX b W O).2 σ1 ∧ FRx a σ σ1 ∧ sameR σ σ1 := by
  refine h.by (Q := fun _ σ' => rsX a (coX b W O).1 (coX b W O).2 σ' ∧ FRx a σ σ' ∧ sameR σ σ') (fun m d => ?_)
  have loop : ∀ (m : Nat) (W2 : List Nat) (O2 : Cd) (σ2 : Sg), rsX a W2 O2 σ2 → FRx a σ σ2 → sameR σ σ2 → coX b W2 O2 = coX b W O → Pl PRG m d 198 0 [(0, .ref 97), (1, .int (b2i b))] [] σ2 (fun _ σ' => rsX a (coX b W O).1 (coX b W O).2 σ' ∧ FRx a σ σ' ∧ sameR σ σ') := by
    intro m
    induction m using Nat.strongRecOn with
    | _ m ih =>
      intro W2 O2 σ2 hr2 g1 g2 hco
      have hr0 := hr2
      obtain ⟨h1, h2, h3, h4, h5, h6, h7⟩ := hr2
      refine Pl.pos (fun m1 hm1 => p_198_0 σ2 (b2i b) ?_)
      cases W2 with
      | nil =>
        have e : (coX b W O) = ([], O2) := hco.symm
        have e41 : σ2.1 97 41 = 0 := h1
        rw [e41]
        exact ⟨fun _ => by rw [e]; exact ⟨hr0, g1, g2⟩, fun c => absurd (by decide) c⟩
      | cons w W2 =>
        have hl : (w :: W2).length = W2.length + 1 := rfl
        have hw := h5 w List.mem_cons_self
        obtain ⟨r6, r8, r9, r10⟩ := rk_w w (by omega) hw
        rw [hl] at h1 h7
        have f2 : nI (W2.length + 1) - (1 : Int32) = nI W2.length := tp_s _
        rw [h1, f2, nI_clamp (by omega), h2.1]
        have u : coX b (w :: W2) O2 = if w = 13 ∨ (b = true ∧ (w = 5 ∨ w = 6)) then (w :: W2, O2) else coX b W2 (O2 ++ [(w, 0)]) := rfl
        have stay : (w = 13 ∨ (b = true ∧ (w = 5 ∨ w = 6))) → ∀ m2, Pl PRG m2 d 198 41 [] [] σ2 (fun _ σ' => rsX a (coX b W O).1 (coX b W O).2 σ' ∧ FRx a σ σ' ∧ sameR σ σ') := fun hc m2 => Pl.pos (fun m3 _ => p_198_41 σ2 (by
          rw [u, if_pos hc] at hco
          rw [← hco]
          exact ⟨hr0, g1, g2⟩))
        have go : ¬ (w = 13 ∨ (b = true ∧ (w = 5 ∨ w = 6))) → ∀ m2, m2 < m → Pl PRG m2 d 198 42 [(0, .ref 97), (1, .int (b2i b)), (2, .int (nI (rk w)))] [] σ2 (fun _ σ' => rsX a (coX b W O).1 (coX b W O).2 σ' ∧ FRx a σ σ' ∧ sameR σ σ') := by
          intro hc m2 hm2
          rw [u, if_neg hc] at hco
          have hr3 : rsX a W2 O2 (s1 σ2 97 41 ((σ2.1 97 41) - (1 : Int32))) := by
            refine ⟨by rw [s1_on, h1]; exact f2, h2.2.fr (fun j _ => by rw [s1_off (by omega)]), by rw [s1_off (by omega)]; exact h3, h4.fr (fun j _ _ => ⟨by rw [s1_off (by omega)], by rw [s1_off (by omega)]⟩), fun x hx => h5 x (List.mem_cons_of_mem _ hx), h6, by omega⟩
          have on : ∀ (m3 : Nat), m3 < m → ∀ (k : Int32) (σ4 : Sg), k = nI (rkC w) → RCx PRG m3 196 [.ref 97, .int k, .int (0 : Int32)] (s1 σ2 97 41 ((σ2.1 97 41) - (1 : Int32))) none σ4 → Pl PRG m3 d 198 0 [(0, .ref 97), (1, .int (b2i b))] [] σ4 (fun _ σ' => rsX a (coX b W O).1 (coX b W O).2 σ' ∧ FRx a σ σ' ∧ sameR σ σ') := fun m3 hm3 k σ4 hk h4' => by
            obtain ⟨k1, k2, k3⟩ := re196 (e := (w, 0)) h4' hr3 hk (fun e => by omega)
            exact ih m3 hm3 W2 (O2 ++ [(w, 0)]) σ4 k1 ((g1.put (by omega)).trans k2) ((g2.put (by omega)).trans k3) hco
          refine Pl.pos (fun m3 hm3 => p_198_42 σ2 (b2i b) (nI (rk w)) ⟨fun c σ4 h4' => on m3 (by omega) _ σ4 ?_ h4', fun c => ⟨fun c2 σ4 h4' => on m3 (by omega) _ σ4 ?_ h4', fun c2 => ⟨fun c3 σ4 h4' => on m3 (by omega) _ σ4 ?_ h4', fun c3 σ4 h4' => on m3 (by omega) _ σ4 ?_ h4'⟩⟩⟩)
          · rw [r8.mp c]; rfl
          · rw [r9.mp c2]; rfl
          · rw [r10.mp c3]; rfl
          · have e8 : w = 8 := by
              have q5 : ¬ w = 5 := fun q => c (r8.mpr q)
              have q6 : ¬ w = 6 := fun q => c2 (r9.mpr q)
              have q7 : ¬ w = 7 := fun q => c3 (r10.mpr q)
              omega
            rw [e8]; rfl
        refine ⟨fun c => absurd ((nI_leI (a := (w :: W2).length) (b := 0) (by omega) (by decide)).mp c) (by omega), fun _ _ => ⟨fun c => stay (Or.inl (r6.mp c)) m1, fun c => ⟨fun cb => go ?_ m1 (by omega), fun cb => ⟨fun c8 => stay (Or.inr ⟨?_, Or.inl (r8.mp c8)⟩) m1, fun c8 => ⟨fun c9 => stay (Or.inr ⟨?_, Or.inr (r9.mp c9)⟩) m1, fun c9 => go ?_ m1 (by omega)⟩⟩⟩⟩⟩
        · rintro (e | ⟨e, -⟩)
          · exact c (r6.mpr e)
          · rw [b2i_0.mp cb] at e; cases e
        · cases hb : b with
          | true => rfl
          | false => rw [hb] at cb; exact absurd rfl cb
        · cases hb : b with
          | true => rfl
          | false => rw [hb] at cb; exact absurd rfl cb
        · rintro (e | ⟨-, e | e⟩)
          · exact c (r6.mpr e)
          · exact c8 (r8.mpr e)
          · exact c9 (r9.mpr e)
  exact Pl.weak (loop (m + 1 + 1) W O σ hr (FRx.refl a σ) (sameR.refl σ) rfl)
theorem coX_ok {b : Bool} : ∀ {W : List Nat} {O : Cd}, okW W → okW (coX b W O).1 := by
  intro W
  induction W with
  | nil => intro O h; exact h
  | cons w W ih =>
    intro O h
    show okW (if _ then (w :: W, O) else coX b W (O ++ [(w, 0)])).1
    split
    · exact h
    · exact ih (fun x hx => h x (List.mem_cons_of_mem _ hx))
/-! a text without fault -/
def gtX (TT : List Tk) (iE : Nat) : Prop := stopAt TT iE 0 ∧ evs TT iE = none
theorem gtX.no {TT : List Tk} {iE : Nat} {σ : Sg} (h : gtX TT iE) (hF : FAr TT σ) : False := by
  obtain ⟨i, f, h1, h2, -⟩ := hF
  exact h2 (stop_one h1 h.1).2
theorem evs_back {TT : List Tk} : ∀ k i, evs TT (i + k) = none → evs TT i = none := by
  intro k
  induction k with
  | zero => intro i h; exact h
  | succ k ih =>
    intro i h
    refine ih i ?_
    have h' : (match evs TT (i + k) with
      | some e => some e
      | none => match pr TT (i + k) with
        | .inr s => if evT TT s (i + k) = 0 then none else some (evT TT s (i + k), i + k)
        | .inl _ => none) = none := h
    cases hv : evs TT (i + k) with
    | none => rfl
    | some e => rw [hv] at h'; cases h'
theorem gtX.ev {TT : List Tk} {iE i : Nat} {s : GSt} (h : gtX TT iE) (hs : pr TT i = .inr s) : evs TT i = none := by
  have hle := stop_lt h.1 hs
  refine evs_back (iE - i) i ?_
  rw [show i + (iE - i) = iE by omega]
  exact h.2
theorem gtX.v3 {TT : List Tk} {iE i : Nat} {s s' : GSt} (h : gtX TT iE) (hs : pr TT i = .inr s) (hs' : pr TT (i + 1) = .inr s') {b : Bool} (hb : evT TT s i = bif b then 5 else 0) : b = false := by
  have h1 := h.ev hs'
  rw [evs_step hs, h.ev hs, evO_off hb] at h1
  cases b with
  | true => cases h1
  | false => rfl
/-- what unit and expression leave -/
def unR (TT : List Tk) (i a dp a0 : Nat) (D : DT) (W : List Nat) (O : Cd) (R : PSr) (σ σ1 : Sg) : Prop := FRx a0 σ σ1 ∧ ∃ j e, i < j ∧ pr TT j = .inr ((a, dp), D) ∧ PRo TT j (evs TT j) dp σ1 ∧ psT TT j = (W, O ++ [e], R) ∧ rsX a0 W (O ++ [e]) σ1
def wnR (TT : List Tk) (i : Nat) (s : GSt) (W : List Nat) (O : Cd) (R : PSr) : Prop := (∀ v S, psS s.1.1 (kdT TT i) v S = uniX (kdT TT i) v S) ∧ psT TT i = (W, O, R)
theorem unit_re {TT : List Tk} (hW : WT TT) {iE : Nat} (hG : gtX TT iE) {n i a u c dp a0 : Nat} {s : GSt} {σ σ1 : Sg} {W : List Nat} {O : Cd} {R : PSr} (hw : wantR TT i a u c dp s) (hR : RQ TT σ) (hP : PRo TT i (evs TT i) dp σ) (n13 : ¬ kdT TT i = 13) (hN : wnR TT i s W O R) (hr : rsX a0 W O σ) (h : RCx PRG n 197 [.ref 97] σ none σ1) : unR TT i a dp a0 s.2 W O R σ σ1 := by
  obtain ⟨hM, hdp, hs, hU, hm, h25, hev⟩ := hw
  obtain ⟨hps, hS⟩ := hN
  have p1 := hP.1
  have p2 := hP.2.1
  have p3 := hP.2.2.1
  have hat := RQ_at hW hR hs p2
  have hkd := (kd_le hW hs).1
  have evn : evs TT (i + 1) = evs TT i := by rw [evs_step hs, evO_0 hev, orE_none]
  have hs1 : psT TT (i + 1) = uniX (kdT TT i) (vlT TT i) (W, O, R) := by rw [ps_next hs, hps, hS]
  have hup : ∀ (q : Nat × Nat), i < 400 → ¬ kdT TT i = 22 → gu a u c dp (kdT TT i) = .inr q → pr TT (i + 1) = .inr (q, s.2) := fun q hi hk hq => by
    have := pr_next hs (by rw [hU]; exact hq) hi
    rw [upd_id hm hk (fun e => h25 e.1)] at this
    exact this
  have one : ∀ (m : Nat) (e : Nat × Int32) (σ2 σ3 : Sg), ¬ kdT TT i = 22 → gu a u c dp (kdT TT i) = .inr (a, dp) → rsX a0 W (O ++ [e]) σ2 → FRx a0 σ σ2 → FRr σ σ2 → sameR σ σ2 → uniX (kdT TT i) (vlT TT i) (W, O, R) = (W, O ++ [e], R) → RCx PRG m 192 [.ref 97] σ2 none σ3 → unR TT i a dp a0 s.2 W O R σ σ3 := by
    intro m e σ2 σ3 h22 hg r1 r2 g1 g2 hu h3
    obtain ⟨k1, k2⟩ := rc192 hW h3 (hR.fr g1) (hP.same g2) hs (by rw [hU]; exact hg)
    rcases k2 with ⟨c1, c2⟩ | g
    · refine ⟨r2.trans (te192 h3).x, i + 1, e, Nat.lt_succ_self i, hup _ c1 h22 hg, by rw [evn]; exact c2, by rw [hs1, hu], r1.t (te192 h3)⟩
    · exact (hG.no g).elim
  refine h.by (Q := fun _ σ' => unR TT i a dp a0 s.2 W O R σ σ') (fun m d => ?_)
  have at88 : ∀ m2, ¬ kdT TT i = 3 → ¬ (27 ≤ kdT TT i ∧ kdT TT i ≤ 36) → Pl PRG m2 d 197 88 [(0, .ref 97)] [] σ (fun _ σ' => unR TT i a dp a0 s.2 W O R σ σ') := by
    intro m2 n3 nv
    refine Pl.pos (fun m3 _ => p_197_88 σ (fun w2 σ2 h2 _ => ?_))
    obtain ⟨rfl, hw2⟩ := rc189 (b := 26) hW h2 hR hP hs (by decide)
    have en : ∀ (m4 : Nat) (σ5 : Sg), unR TT i a dp a0 s.2 W O R σ2 σ5 → Pl PRG m4 d 197 134 [] [] σ5 (fun _ σ' => unR TT i a dp a0 s.2 W O R σ2 σ') := fun m4 σ5 hq => Pl.pos (fun m5 _ => p_197_134 σ5 hq)
    refine ⟨fun z σ3 h3 => ?_, fun z σ4 h4 w6 σ5 h5 => ?_⟩
    · rcases hw2 with ⟨-, n26⟩ | ⟨e, -⟩
      · have hg : gu a u c dp (kdT TT i) = .inl 1 := by
          unfold gu
          rw [if_neg n13, if_neg nv, if_neg n26, if_neg n3]
        obtain ⟨k1, k2⟩ := rc190 (f := 1) hW h3 hR hP (stop_f hs (by rw [hU]; exact hg)) (by decide)
        exact (hG.no k2).elim
      · rw [e] at z; exact absurd z (by decide)
    · rcases hw2 with ⟨e, -⟩ | ⟨-, e26⟩
      · exact absurd e z
      · have hg : gu a u c dp (kdT TT i) = .inr (c, dp) := by
          unfold gu
          rw [if_neg n13, if_neg nv, if_pos e26]
        obtain ⟨k1, k2⟩ := rc192 hW h4 hR hP hs (by rw [hU]; exact hg)
        rcases k2 with ⟨c1, c2⟩ | g
        · have hs2 := hup (c, dp) c1 (by omega) hg
          rw [← evn] at c2
          obtain ⟨l1, l2⟩ := rc194 hW h5 (hR.fr k1) c2 hs2 (fun e => by show gs c dp _ _ = _; rw [hM.gsc, if_pos e]) (fun e => by show gs c dp _ _ = _; rw [hM.gsc, if_neg e]) (fun x hx => (evs_lt hx).1)
          rcases l2 with ⟨ev6, e3, e4, e5⟩ | g
          · have hs3 := pr_next (q := (a, dp)) hs2 (by show gs c dp _ _ = _; rw [hM.gsc, if_pos e3]) e4
            rw [show updD ((c, dp), s.2).1.1 (kdT TT (i + 1)) (i + 1) ((c, dp), s.2).2 = s.2 from upd_id hM.ne.2.2.1 (by omega) (fun e => hM.ne.2.2.2.2 e.1)] at hs3
            have v3 := hG.v3 hs2 hs3 (b := off (vlT TT (i + 1)) 0 3) hM.evc
            have le3 : w6 ≤ (3 : Int32) := by
              rw [ev6]
              unfold off at v3
              rw [Bool.or_eq_false_iff, decide_eq_false_iff_not, decide_eq_false_iff_not, Int32.lt_iff_toInt_lt, Int32.lt_iff_toInt_lt] at v3
              rw [Int32.le_iff_toInt_le]
              omega
            have fin : ∀ (σ7 : Sg), RCx PRG m3 196 [.ref 97, .int (1 : Int32), .int ((10 : Int32) + w6)] σ5 none σ7 → unR TT i a dp a0 s.2 W O R σ2 σ7 := by
              intro σ7 h7
              obtain ⟨t1, t2, t3⟩ := re196 (e := (27, (10 : Int32) + w6)) h7 ((hr.t (te192 h4)).t (te194 h5)) rfl (fun _ => rfl)
              refine ⟨((te192 h4).x.trans (te194 h5).x).trans t2, i + 1 + 1, (27, (10 : Int32) + w6), by omega, hs3, ?_, ?_, t1⟩
              · rw [evs_step hs2, evO_off hM.evc]
                exact e5.same t3
              · rw [ps_next hs2, hs1]
                show psS c _ _ _ = _
                rw [hM.psc, ev6]
                unfold uniX
                rw [if_neg n13, if_neg nv, if_pos e26]
                rfl
            exact ⟨fun _ σ7 h7 => en m3 σ7 (fin σ7 h7), fun hc => absurd le3 hc⟩
          · exact (hG.no g).elim
        · exact (hG.no g).elim
  refine p_197_0 σ (fun w2 σ2 h2 _ => ?_)
  obtain ⟨rfl, hw2⟩ := rc189 (b := 3) hW h2 hR hP hs (by decide)
  have en : ∀ (m4 : Nat) (σ5 : Sg), unR TT i a dp a0 s.2 W O R σ2 σ5 → Pl PRG m4 d 197 134 [] [] σ5 (fun _ σ' => unR TT i a dp a0 s.2 W O R σ2 σ') := fun m4 σ5 hq => Pl.pos (fun m5 _ => p_197_134 σ5 hq)
  have hrl := rk_lt (kdT TT i) (by omega)
  refine ⟨fun z => ⟨fun _ _ => ?_, fun c => absurd p3 c⟩, fun z _ σ5 h5 σ6 h6 => en m σ6 ?_⟩
  · rcases hw2 with ⟨-, n3⟩ | ⟨e, -⟩
    · rw [p1, nI_clamp (by omega), hat.1]
      have hv : (31 ≤ rk (kdT TT i) ∧ rk (kdT TT i) ≤ 40) ↔ (27 ≤ kdT TT i ∧ kdT TT i ≤ 36) := (by decide +kernel : ∀ k, k < 37 → ((31 ≤ rk k ∧ rk k ≤ 40) ↔ (27 ≤ k ∧ k ≤ 36))) _ (by omega)
      have hv2 : ∀ k, k < 37 → 27 ≤ k → k ≤ 36 → nI (rk k) - (31 : Int32) = nI (k - 27) := by decide +kernel
      refine ⟨fun c31 => at88 m n3 (fun e => ?_), fun c31 _ => ⟨fun c40 => at88 m n3 (fun e => ?_), fun c40 _ σ3 h3 σ4 h4 => en m σ4 ?_⟩⟩
      · exact absurd c31 (nI_nlt (a := rk (kdT TT i)) (b := 31) (hv.mpr e).1 (by omega))
      · exact absurd c40 (nI_nlt (a := 40) (b := rk (kdT TT i)) (hv.mpr e).2 (by decide))
      · have hv3 : 27 ≤ kdT TT i ∧ kdT TT i ≤ 36 := hv.mp ⟨by
          rcases Nat.lt_or_ge (rk (kdT TT i)) 31 with g | g
          · exact absurd (nI_lt g (by decide)) c31
          · exact g, by
          rcases Nat.lt_or_ge 40 (rk (kdT TT i)) with g | g
          · exact absurd (nI_lt g (by omega)) c40
          · exact g⟩
        obtain ⟨t1, t2⟩ := rc196 h3
        rw [hv2 _ (by omega) hv3.1 hv3.2] at h3
        obtain ⟨y1, y2, y3⟩ := re196 (e := (27, nI (kdT TT i - 27))) h3 hr rfl (fun _ => rfl)
        refine one m (27, nI (kdT TT i - 27)) σ3 σ4 (by omega) ?_ y1 y2 t1 t2 ?_ h4
        · unfold gu
          rw [if_neg n13, if_pos hv3]
        · unfold uniX
          rw [if_neg n13, if_pos hv3]
    · rw [e] at z; exact absurd z (by decide)
  · rcases hw2 with ⟨e, -⟩ | ⟨-, e3⟩
    · exact absurd e z
    · obtain ⟨t1, t2⟩ := rc196 h5
      rw [p1, nI_clamp (by omega), hat.2.2.1 e3] at h5
      obtain ⟨y1, y2, y3⟩ := re196 (e := (3, vlT TT i)) h5 hr rfl (fun _ => rfl)
      refine one m (3, vlT TT i) σ5 σ6 (by omega) ?_ y1 y2 t1 t2 ?_ h6
      · unfold gu
        rw [if_neg n13, if_neg (by omega), if_neg (by omega), if_pos e3]
      · unfold uniX
        rw [if_neg n13, if_neg (by omega), if_neg (by omega)]
