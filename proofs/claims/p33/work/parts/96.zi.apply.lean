/-! which customs apply, which are lies: both sides -/
def whB (V : Nat → Int32) (ls : List Lt) : Bool := match ls with
  | [] => true
  | _ :: _ => ruX V false ls
theorem whB_ne {V : Nat → Int32} {ls : List Lt} (h : ¬ ls = []) : whB V ls = ruX V false ls := by
  cases ls with
  | nil => exact absurd rfl h
  | cons l ls => rfl
theorem re_wh {V : Nat → Int32} {ls : List Lt} (h : ∀ l ∈ ls, gLt l) (ho : orS ls) : reX (rnX V (ccX ls) ([], false)).1 = whB V ls := by
  cases ls with
  | nil => rfl
  | cons l ls =>
    rw [rn_cc h ho (by simp), whB_ne (by simp)]
    show (!(decide (b2i (ruX V false (l :: ls)) = 0))) = _
    cases ruX V false (l :: ls) <;> rfl
theorem ruX_cg {V V' : Nat → Int32} (h : ∀ i, i < 14 → V i = V' i) : ∀ (ls : List Lt) (a : Bool), (∀ l ∈ ls, gLt l) → ruX V a ls = ruX V' a ls := by
  intro ls
  induction ls with
  | nil => intro a _; rfl
  | cons l ls ih =>
    intro a hg
    obtain ⟨⟨g1, -⟩, ⟨g2, -⟩, -⟩ := hg l List.mem_cons_self
    have e : ltX V l = ltX V' l := by
      unfold ltX
      rw [rn_cg h l.2.2.2.1 ([], false) 1 g1, rn_cg h l.2.2.2.2 ([], false) 1 g2]
    have hg2 : ∀ l ∈ ls, gLt l := fun x hx => hg x (List.mem_cons_of_mem _ hx)
    show (if l.1 = true then (if a = true then true else ruX V (ltX V l) ls) else ruX V (a && ltX V l) ls) = (if l.1 = true then (if a = true then true else ruX V' (ltX V' l) ls) else ruX V' (a && ltX V' l) ls)
    rw [e, ih _ hg2, ih _ hg2]
theorem whB_cg {V V' : Nat → Int32} (h : ∀ i, i < 14 → V i = V' i) {ls : List Lt} (hg : ∀ l ∈ ls, gLt l) : whB V ls = whB V' ls := by
  cases ls with
  | nil => rfl
  | cons l ls => exact ruX_cg h (l :: ls) false hg
abbrev PPt : Type := Nat → List Lt × List Lt
def gPP (nc : Nat) (PP : PPt) : Prop := nc ≤ 6 ∧ ∀ k, k < nc → gRl (PP k)
def cpC (nc : Nat) (PP : PPt) (σ : Sg) : Prop := ∀ k, k < nc → cuX σ 400 k (PP k)
def cpR (lv nc : Nat) (PP : PPt) (σ : Sg) : Prop := ∀ k, k < nc → ruR σ (12 * lv + 2 * k) (PP k).1 ∧ ruR σ (12 * lv + 2 * k + 1) (PP k).2
theorem cuX.pr {σ : Sg} {N q : Nat} {d : List Lt × List Lt} (h : cuX σ N q d) (hN : N ≤ 400) : prX σ (2 * q + 0) (ccX d.1) ∧ prX σ (2 * q + 1) (ccX d.2) := by
  obtain ⟨a, h1, h2, h3, h4, h5, h6, h7⟩ := h
  exact ⟨⟨a, by omega, h2, h3, h6⟩, ⟨a + (ccX d.1).length, by omega, h4, h5, h7⟩⟩
theorem hX_any {ls : List Lt} (h : ∀ l ∈ ls, gLt l) : ∃ h', hX 64 (ccX ls) 0 = some h' := by
  rcases hX_cc h with e | e
  · exact ⟨1, e⟩
  · subst e; exact ⟨0, rfl⟩
theorem cuX.fr14 {σ σ1 : Sg} {N q : Nat} {d : List Lt × List Lt} (h : cuX σ N q d) (h8 : ∀ x, σ1.1 8 x = σ.1 8 x) (h67 : ∀ x, σ1.1 6 x = σ.1 6 x ∧ σ1.1 7 x = σ.1 7 x) : cuX σ1 N q d := h.fr (Nat.le_refl N) (fun x _ => h8 x) (fun x _ => h67 x)
def apB (K S : Nat → Int32) (PP : PPt) (V : Nat → Int32) (kd sd : Int32) (k : Nat) : Bool := decide (K k = kd) && ((decide (S k = 2) || decide (S k = sd)) && whB V (PP k).1)
def apF (K S : Nat → Int32) (PP : PPt) (V : Nat → Int32) (kd sd : Int32) : Nat → Int32
  | 0 => 0
  | k + 1 => if apB K S PP V kd sd k = true then apF K S PP V kd sd k ||| ((1 : Int32) <<< (nI k &&& 31)) else apF K S PP V kd sd k
def lyF (PP : PPt) (V : Nat → Int32) (m : Int32) : Nat → Int32
  | 0 => 0
  | k + 1 => if (bt m k && !whB V (PP k).2) = true then lyF PP V m k ||| ((1 : Int32) <<< (nI k &&& 31)) else lyF PP V m k
section Ap
variable {s r n nc : Nat} {t x w : Int32} {σ σ1 : Sg} {K S : Nat → Int32} {PP : PPt}
def lcC (nc : Nat) (K S : Nat → Int32) (σ : Sg) : Prop := σ.1 3 3 = nI nc ∧ ∀ k, k < nc → σ.1 4 k = S k ∧ σ.1 5 k = K k
theorem lcC.fr (h : lcC nc K S σ) (hf : exc [14] σ σ1) : lcC nc K S σ1 := ⟨(hf 3 (by decide) rfl 3).trans h.1, fun k hk => ⟨(hf 4 (by decide) rfl k).trans (h.2 k hk).1, (hf 5 (by decide) rfl k).trans (h.2 k hk).2⟩⟩
theorem cpC.fr (h : cpC nc PP σ) (hf : exc [14] σ σ1) : cpC nc PP σ1 := fun k hk => (h k hk).fr14 (fun x => hf 8 (by decide) rfl x) (fun x => ⟨hf 6 (by decide) rfl x, hf 7 (by decide) rfl x⟩)
/-- one part of one custom -/
theorem rc12w {k part : Nat} (h : RCx PRG n 12 [.ref 12, .int (nI k), .int (nI part)] σ (some (.int w)) σ1) (hP : gPP nc PP) (hk : k < nc) (hC : cpC nc PP σ) (hp : part = 0 ∨ part = 1) : exc [14] σ σ1 ∧ w = b2i (whB (fun i => σ.1 13 i) (if part = 0 then (PP k).1 else (PP k).2)) := by
  obtain ⟨g1, g2, g3, g4, g5⟩ := hP.2 k hk
  have h6 := hP.1
  obtain ⟨p1, p2⟩ := (hC k hk).pr (Nat.le_refl 400)
  rcases hp with rfl | rfl
  · obtain ⟨e1, e2, -⟩ := rc12 h (by omega) (by decide) p1 (hX_any g1)
    exact ⟨e2, by rw [e1, re_wh g1 g2, if_pos rfl]⟩
  · obtain ⟨e1, e2, -⟩ := rc12 h (by omega) (by decide) p2 (hX_any g3)
    exact ⟨e2, by rw [e1, re_wh g3 g4, if_neg (by decide)]⟩
theorem rc38 {kd sd : Int32} (h : RCx PRG n 38 [.ref 12, .int kd, .int sd] σ (some (.int w)) σ1) (hP : gPP nc PP) (hC : cpC nc PP σ) (hL : lcC nc K S σ) : exc [14] σ σ1 ∧ w = apF K S PP (fun i => σ.1 13 i) kd sd nc := by
  have h6 := hP.1
  have loop : ∀ (m d k : Nat) (σ2 : Sg), k ≤ nc → exc [14] σ σ2 → Pl PRG m d 38 5 [(0, .ref 12), (1, .int kd), (2, .int sd), (3, .int (apF K S PP (fun i => σ.1 13 i) kd sd k)), (4, .int (nI k))] [] σ2 (fun v s' => exc [14] σ s' ∧ v = some (.int (apF K S PP (fun i => σ.1 13 i) kd sd nc))) := by
    intro m d
    induction m using Nat.strongRecOn with
    | _ m ih =>
      intro k σ2 hk hf
      have hL2 := hL.fr hf
      refine Pl.pos (fun m1 hm1 => p_38_5 σ2 kd sd _ (nI k) ?_)
      rw [hL2.1]
      refine ⟨fun cc => ?_, fun cc _ => ?_⟩
      · have ek : k = nc := by
          have := (nI_leI (a := nc) (b := k) (by omega) (by omega)).mp cc
          omega
        subst ek
        exact ⟨hf, rfl⟩
      · have hlt : k < nc := nle_of (by omega) (by omega) cc
        rw [nI_clamp (by omega), (hL2.2 k hlt).1, (hL2.2 k hlt).2]
        have u : apF K S PP (fun i => σ.1 13 i) kd sd (k + 1) = if apB K S PP (fun i => σ.1 13 i) kd sd k = true then apF K S PP (fun i => σ.1 13 i) kd sd k ||| ((1 : Int32) <<< (nI k &&& 31)) else apF K S PP (fun i => σ.1 13 i) kd sd k := rfl
        have at88 : ∀ (m2 : Nat), m2 < m → ∀ (y : Int32) (σ3 : Sg), exc [14] σ σ3 → y = apF K S PP (fun i => σ.1 13 i) kd sd (k + 1) → Pl PRG m2 d 38 88 [(0, .ref 12), (1, .int kd), (2, .int sd), (3, .int y), (4, .int (nI k))] [] σ3 (fun v s' => exc [14] σ s' ∧ v = some (.int (apF K S PP (fun i => σ.1 13 i) kd sd nc))) := fun m2 hm2 y σ3 q1 q2 => Pl.pos (fun m3 hm3 => p_38_88 σ3 kd sd y (nI k) (by
          rw [q2, nI_1]
          exact ih m3 (by omega) (k + 1) σ3 (by omega) q1))
        have at63 : ∀ (m2 : Nat), m2 < m → apB K S PP (fun i => σ.1 13 i) kd sd k = false → Pl PRG m2 d 38 63 [(0, .ref 12), (1, .int kd), (2, .int sd), (3, .int (apF K S PP (fun i => σ.1 13 i) kd sd k)), (4, .int (nI k))] [] σ2 (fun v s' => exc [14] σ s' ∧ v = some (.int (apF K S PP (fun i => σ.1 13 i) kd sd nc))) := fun m2 hm2 hb => Pl.pos (fun m3 hm3 => p_38_63 σ2 kd sd _ (nI k) (at88 m3 (by omega) _ σ2 hf (by rw [u, hb, if_neg (by decide)])))
        have at59 : ∀ (m2 : Nat), m2 < m → K k = kd → (S k = 2 ∨ S k = sd) → Pl PRG m2 d 38 59 [(0, .ref 12), (1, .int kd), (2, .int sd), (3, .int (apF K S PP (fun i => σ.1 13 i) kd sd k)), (4, .int (nI k))] [] σ2 (fun v s' => exc [14] σ s' ∧ v = some (.int (apF K S PP (fun i => σ.1 13 i) kd sd nc))) := by
          intro m2 hm2 hk1 hk2
          refine Pl.pos (fun m3 hm3 => p_38_59 σ2 kd sd _ (nI k) (fun w2 σ3 h3 _ => ?_))
          rw [show (0 : Int32) = nI 0 from rfl] at h3
          obtain ⟨f3, e3⟩ := rc12w h3 hP hlt (hC.fr hf) (Or.inl rfl)
          rw [if_pos rfl] at e3
          have eV : (fun i => σ2.1 13 i) = fun i => σ.1 13 i := funext (fun i => hf 13 (by decide) rfl i)
          rw [eV] at e3
          have ea : apB K S PP (fun i => σ.1 13 i) kd sd k = whB (fun i => σ.1 13 i) (PP k).1 := by
            unfold apB
            rw [decide_eq_true hk1, Bool.true_and]
            rcases hk2 with q | q
            · rw [decide_eq_true q, Bool.true_or, Bool.true_and]
            · rw [decide_eq_true q, Bool.or_true, Bool.true_and]
          refine ⟨fun z => at88 m3 (by omega) _ σ3 (hf.trans f3) ?_, fun z => at88 m3 (by omega) _ σ3 (hf.trans f3) ?_⟩
          · rw [e3] at z
            rw [u, ea, b2i_0.mp z, if_neg (by decide)]
          · have : whB (fun i => σ.1 13 i) (PP k).1 = true := by
              cases hb : whB (fun i => σ.1 13 i) (PP k).1 with
              | true => rfl
              | false => rw [e3, hb] at z; exact absurd rfl z
            rw [u, ea, this, if_pos rfl]
        refine ⟨fun c1 _ => ⟨fun c2 => at59 m1 (by omega) c1 (Or.inl c2), fun c2 _ => ⟨fun c3 => at59 m1 (by omega) c1 (Or.inr c3), fun c3 => at63 m1 (by omega) ?_⟩⟩, fun c1 => at63 m1 (by omega) ?_⟩
        · unfold apB
          rw [decide_eq_false c2, decide_eq_false c3]
          exact Bool.and_false _
        · unfold apB
          rw [decide_eq_false c1]
          rfl
  obtain ⟨k1, k2⟩ := h.by (Q := fun v s' => exc [14] σ s' ∧ v = some (.int (apF K S PP (fun i => σ.1 13 i) kd sd nc))) (fun m d => p_38_0 σ kd sd (loop m d 0 σ (Nat.zero_le _) (exc.refl σ)))
  cases k2
  exact ⟨k1, rfl⟩
theorem bt_sh (m : Int32) {k : Nat} (hk : k < 32) : ((m >>> (nI k &&& 31)) &&& (1 : Int32)) = 0 ↔ bt m k = false := by
  rw [shr_bt (nI_toInt (by omega)) hk]
  cases bt m k <;> decide
theorem bt_sh1 (m : Int32) {k : Nat} (hk : k < 32) : ((m >>> (nI k &&& 31)) &&& (1 : Int32)) = 1 ↔ bt m k = true := by
  rw [shr_bt (nI_toInt (by omega)) hk]
  cases bt m k <;> decide
theorem rc13 {a : Int32} (h : RCx PRG n 13 [.ref 12, .int a] σ (some (.int w)) σ1) (hP : gPP nc PP) (hC : cpC nc PP σ) (hL : lcC nc K S σ) : exc [14] σ σ1 ∧ w = lyF PP (fun i => σ.1 13 i) a nc := by
  have h6 := hP.1
  have loop : ∀ (m d k : Nat) (σ2 : Sg), k ≤ nc → exc [14] σ σ2 → Pl PRG m d 13 4 [(0, .ref 12), (1, .int a), (2, .int (lyF PP (fun i => σ.1 13 i) a k)), (3, .int (nI k))] [] σ2 (fun v s' => exc [14] σ s' ∧ v = some (.int (lyF PP (fun i => σ.1 13 i) a nc))) := by
    intro m d
    induction m using Nat.strongRecOn with
    | _ m ih =>
      intro k σ2 hk hf
      have hL2 := hL.fr hf
      refine Pl.pos (fun m1 hm1 => p_13_4 σ2 a _ (nI k) ?_)
      rw [hL2.1]
      refine ⟨fun cc => ?_, fun cc => ?_⟩
      · have ek : k = nc := by
          have := (nI_leI (a := nc) (b := k) (by omega) (by omega)).mp cc
          omega
        subst ek
        exact ⟨hf, rfl⟩
      · have hlt : k < nc := nle_of (by omega) (by omega) cc
        have u : lyF PP (fun i => σ.1 13 i) a (k + 1) = if (bt a k && !whB (fun i => σ.1 13 i) (PP k).2) = true then lyF PP (fun i => σ.1 13 i) a k ||| ((1 : Int32) <<< (nI k &&& 31)) else lyF PP (fun i => σ.1 13 i) a k := rfl
        have at38 : ∀ (m2 : Nat), m2 < m → ∀ (y : Int32) (σ3 : Sg), exc [14] σ σ3 → y = lyF PP (fun i => σ.1 13 i) a (k + 1) → Pl PRG m2 d 13 38 [(0, .ref 12), (1, .int a), (2, .int y), (3, .int (nI k))] [] σ3 (fun v s' => exc [14] σ s' ∧ v = some (.int (lyF PP (fun i => σ.1 13 i) a nc))) := fun m2 hm2 y σ3 q1 q2 => Pl.pos (fun m3 hm3 => p_13_38 σ3 a y (nI k) (by
          rw [q2, nI_1]
          exact ih m3 (by omega) (k + 1) σ3 (by omega) q1))
        refine ⟨fun z => at38 m1 (by omega) _ σ2 hf ?_, fun z w2 σ3 h3 _ => ?_⟩
        · rw [u, (bt_sh a (by omega)).mp z, Bool.false_and, if_neg (by decide)]
        · have hb : bt a k = true := by
            cases hq : bt a k with
            | true => rfl
            | false => exact absurd ((bt_sh a (by omega)).mpr hq) z
          rw [show (1 : Int32) = nI 1 from rfl] at h3
          obtain ⟨f3, e3⟩ := rc12w h3 hP hlt (hC.fr hf) (Or.inr rfl)
          rw [if_neg (by decide)] at e3
          have eV : (fun i => σ2.1 13 i) = fun i => σ.1 13 i := funext (fun i => hf 13 (by decide) rfl i)
          rw [eV] at e3
          refine ⟨fun z2 => at38 m1 (by omega) _ σ3 (hf.trans f3) ?_, fun z2 => at38 m1 (by omega) _ σ3 (hf.trans f3) ?_⟩
          · rw [e3] at z2
            rw [u, hb, b2i_0.mp z2]
            rfl
          · have : whB (fun i => σ.1 13 i) (PP k).2 = true := by
              cases hq : whB (fun i => σ.1 13 i) (PP k).2 with
              | true => rfl
              | false => rw [e3, hq] at z2; exact absurd rfl z2
            rw [u, hb, this, if_neg (by decide)]
  obtain ⟨k1, k2⟩ := h.by (Q := fun v s' => exc [14] σ s' ∧ v = some (.int (lyF PP (fun i => σ.1 13 i) a nc))) (fun m d => p_13_0 σ a (loop m d 0 σ (Nat.zero_le _) (exc.refl σ)))
  cases k2
  exact ⟨k1, rfl⟩
end Ap
/-! the reference -/
theorem ltR.fr {σ σ1 : Sg} {i : Nat} {l : Lt} (h : ltR σ i l) (hf : ∀ q j, 112 ≤ q → q ≤ 121 → σ1.1 q j = σ.1 q j) : ltR σ1 i l := by
  obtain ⟨a, h1, h2, h3, h4, h5, h6, h7, h8, h9⟩ := h
  exact ⟨a, h1, (hf 117 i (by omega) (by omega)).trans h2, (hf 118 i (by omega) (by omega)).trans h3, (hf 119 i (by omega) (by omega)).trans h4, h5.fr (fun j _ _ => ⟨hf 120 j (by omega) (by omega), hf 121 j (by omega) (by omega)⟩), h6.fr (fun j _ _ => ⟨hf 120 j (by omega) (by omega), hf 121 j (by omega) (by omega)⟩), (hf 114 i (by omega) (by omega)).trans h7, (hf 115 i (by omega) (by omega)).trans h8, (hf 116 i (by omega) (by omega)).trans h9⟩
theorem lsR.fr {σ σ1 : Sg} (hf : ∀ q j, 112 ≤ q → q ≤ 121 → σ1.1 q j = σ.1 q j) : ∀ {ls : List Lt} {i : Nat}, lsR σ i ls → lsR σ1 i ls := by
  intro ls
  induction ls with
  | nil => intro i _; trivial
  | cons l ls ih => intro i h; exact ⟨h.1.fr hf, ih h.2⟩
theorem ruR.fr {σ σ1 : Sg} {r : Nat} {ls : List Lt} (h : ruR σ r ls) (hf : ∀ q j, 112 ≤ q → q ≤ 121 → σ1.1 q j = σ.1 q j) : ruR σ1 r ls := by
  obtain ⟨i, h1, h2, h3, h4⟩ := h
  exact ⟨i, h1, (hf 112 r (by omega) (by omega)).trans h2, (hf 113 r (by omega) (by omega)).trans h3, h4.fr hf⟩
/-- what all questions of the reference's judge may change -/
def jA (σ σ1 : Sg) : Prop := (∀ q j, ¬ q = 123 → ¬ q = 124 → ¬ (q = 97 ∧ j = 44) → σ1.1 q j = σ.1 q j) ∧ σ1.2 = σ.2
theorem jA.refl (σ : Sg) : jA σ σ := ⟨fun _ _ _ _ _ => rfl, rfl⟩
theorem jA.trans {σ σ1 σ2 : Sg} (h : jA σ σ1) (h' : jA σ1 σ2) : jA σ σ2 := ⟨fun q j a b c => (h'.1 q j a b c).trans (h.1 q j a b c), h'.2.trans h.2⟩
theorem jF.a {σ σ1 : Sg} (h : jF σ σ1) : jA σ σ1 := ⟨fun q j a _ _ => h.1 q j a, h.2⟩
theorem jR.a {σ σ1 : Sg} (h : jR σ σ1) : jA σ σ1 := ⟨fun q j _ b c => h.1 q j b c, h.2⟩
theorem LR.ja {s r lv : Nat} {t : Int32} {σ σ1 : Sg} (h : LR s r t lv σ) (hf : jA σ σ1) : LR s r t lv σ1 := h.k (hf.1 97 18 (by decide) (by decide) (by decide)) (fun q a b => hf.1 q lv (by omega) (by omega) (by omega))
theorem cpR.ja {lv nc : Nat} {PP : PPt} {σ σ1 : Sg} (h : cpR lv nc PP σ) (hf : jA σ σ1) : cpR lv nc PP σ1 := fun k hk => ⟨(h k hk).1.fr (fun q j a b => hf.1 q j (by omega) (by omega) (by omega)), (h k hk).2.fr (fun q j a b => hf.1 q j (by omega) (by omega) (by omega))⟩
section Am
variable {s r n nc lv : Nat} {t x w : Int32} {σ σ1 : Sg} {K S : Nat → Int32} {PP : PPt}
def lcR (lv nc : Nat) (K S : Nat → Int32) (σ : Sg) : Prop := lv < 2 ∧ σ.1 97 18 = nI lv ∧ σ.1 109 lv = nI nc ∧ ∀ k, k < nc → σ.1 110 (6 * lv + k) = S k ∧ σ.1 111 (6 * lv + k) = K k
theorem lcR.ja (h : lcR lv nc K S σ) (hf : jA σ σ1) : lcR lv nc K S σ1 := ⟨h.1, (hf.1 97 18 (by decide) (by decide) (by decide)).trans h.2.1, (hf.1 109 lv (by decide) (by decide) (by omega)).trans h.2.2.1, fun k hk => ⟨(hf.1 110 _ (by decide) (by decide) (by omega)).trans (h.2.2.2 k hk).1, (hf.1 111 _ (by decide) (by decide) (by omega)).trans (h.2.2.2 k hk).2⟩⟩
theorem mul12 {lv k : Nat} (h : lv < 2) (hk : k ≤ 6) : ((12 : Int32) * nI lv) + ((2 : Int32) * nI k) = nI (12 * lv + 2 * k) := by
  rw [show (12 : Int32) = nI 12 by decide, show (2 : Int32) = nI 2 by decide, nI_mulI (by omega) (by omega) (by omega), nI_mulI (by omega) (by omega) (by omega), nI_add]
theorem m250 {k : Nat} {p kd : Int32} (h : RCx PRG n 250 [.ref 97, .int (nI k), .int p, .int kd] σ (some (.int w)) σ1) (hL : lcR lv nc K S σ) (hk : k < nc) (h6 : nc ≤ 6) : σ1 = σ ∧ w = b2i (decide (K k = kd) && (decide (S k = 2) || decide (S k = p - p / 2 * 2))) := by
  obtain ⟨h1, h2, h3, h4⟩ := hL
  obtain ⟨e1, e2⟩ := h4 k hk
  have ix : ((6 : Int32) * nI lv) + nI k = nI (6 * lv + k) := six h1 (by omega)
  have f46 : ∀ m d, (decide (K k = kd) && (decide (S k = 2) || decide (S k = p - p / 2 * 2))) = true → Pl PRG m d 250 46 [] [] σ (fun v s' => s' = σ ∧ v = some (.int (b2i (decide (K k = kd) && (decide (S k = 2) || decide (S k = p - p / 2 * 2)))))) := fun m d hb => Pl.pos (fun m2 _ => p_250_46 σ ⟨rfl, by rw [hb]; rfl⟩)
  have f50 : ∀ m d, (decide (K k = kd) && (decide (S k = 2) || decide (S k = p - p / 2 * 2))) = false → Pl PRG m d 250 50 [] [] σ (fun v s' => s' = σ ∧ v = some (.int (b2i (decide (K k = kd) && (decide (S k = 2) || decide (S k = p - p / 2 * 2)))))) := fun m d hb => Pl.pos (fun m2 _ => p_250_50 σ ⟨rfl, by rw [hb]; rfl⟩)
  obtain ⟨k1, k2⟩ := h.by (Q := fun v s' => s' = σ ∧ v = some (.int (b2i (decide (K k = kd) && (decide (S k = 2) || decide (S k = p - p / 2 * 2)))))) (fun m d => p_250_0 σ (nI k) p kd (fun _ => by
    rw [h2, ix, nI_clamp (by omega), e1, e2]
    refine ⟨fun c _ => ⟨fun c2 => f46 m d ?_, fun c2 _ => ⟨fun c3 => f46 m d ?_, fun c3 => f50 m d ?_⟩⟩, fun c => f50 m d ?_⟩
    · rw [decide_eq_true c, decide_eq_true c2]; rfl
    · rw [decide_eq_true c, decide_eq_true c3, Bool.or_true]; rfl
    · rw [decide_eq_false c2, decide_eq_false c3]; exact Bool.and_false _
    · rw [decide_eq_false c]; rfl))
  cases k2
  exact ⟨k1, rfl⟩
theorem lsR.len_ne {σ : Sg} {r : Nat} {ls : List Lt} (h : ruR σ r ls) : σ.1 112 r = σ.1 113 r ↔ ls = [] := by
  obtain ⟨i, h1, h2, h3, h4⟩ := h
  rw [h2, h3, nI_eq (by omega) (by omega)]
  constructor
  · intro e
    have : ls.length = 0 := by omega
    exact List.length_eq_zero_iff.mp this
  · intro e; subst e; rfl
theorem m251 {k : Nat} (h : RCx PRG n 251 [.ref 97, .int (nI k)] σ (some (.int w)) σ1) (hP : gPP nc PP) (hk : k < nc) (hC : cpR lv nc PP σ) (hl : lv < 2) (h18 : σ.1 97 18 = nI lv) : jR σ σ1 ∧ w = b2i (whB (fun i => σ.1 123 i) (PP k).1) := by
  have h6 := hP.1
  obtain ⟨g1, -⟩ := hP.2 k hk
  have hr := (hC k hk).1
  have f35 : ∀ m d (σ2 : Sg), jR σ σ2 → whB (fun i => σ.1 123 i) (PP k).1 = true → Pl PRG m d 251 35 [] [] σ2 (fun v s' => jR σ s' ∧ v = some (.int (b2i (whB (fun i => σ.1 123 i) (PP k).1)))) := fun m d σ2 hj hb => Pl.pos (fun m2 _ => p_251_35 σ2 ⟨hj, by rw [hb]; rfl⟩)
  obtain ⟨k1, k2⟩ := h.by (Q := fun v s' => jR σ s' ∧ v = some (.int (b2i (whB (fun i => σ.1 123 i) (PP k).1)))) (fun m d => p_251_0 σ (nI k) (fun _ _ => by
    rw [h18, mul12 hl (by omega), nI_clamp (by omega)]
    refine ⟨fun c => f35 m d σ (jR.refl σ) ?_, fun c w2 σ2 h2 _ => ?_⟩
    · rw [(lsR.len_ne hr).mp c]; rfl
    · have hne : ¬ (PP k).1 = [] := fun e => c ((lsR.len_ne hr).mpr e)
      obtain ⟨q1, q2⟩ := rc208 h2 (by omega) hr g1
      rw [← whB_ne hne] at q2
      refine ⟨fun z => ⟨q1, ?_⟩, fun z => f35 m d σ2 q1 ?_⟩
      · rw [q2] at z
        rw [b2i_0.mp z]; rfl
      · cases hb : whB (fun i => σ.1 123 i) (PP k).1 with
        | true => rfl
        | false => rw [q2, hb] at z; exact absurd rfl z))
  cases k2
  exact ⟨k1, rfl⟩
theorem m252 {k : Nat} (h : RCx PRG n 252 [.ref 97, .int (nI k)] σ (some (.int w)) σ1) (hP : gPP nc PP) (hk : k < nc) (hC : cpR lv nc PP σ) (hl : lv < 2) (h18 : σ.1 97 18 = nI lv) : jR σ σ1 ∧ w = b2i (whB (fun i => σ.1 123 i) (PP k).2) := by
  have h6 := hP.1
  obtain ⟨-, -, g3, -, g5⟩ := hP.2 k hk
  obtain ⟨k1, k2⟩ := h.by (Q := fun v s' => jR σ s' ∧ v = some (.int (b2i (whB (fun i => σ.1 123 i) (PP k).2)))) (fun m d => p_252_0 σ (nI k) (fun w2 σ2 h2 _ _ => by
    rw [h18, mul12 hl (by omega), nI_1] at h2
    obtain ⟨q1, q2⟩ := rc208 h2 (by omega) (hC k hk).2 g3
    rw [← whB_ne g5] at q2
    exact ⟨q1, by rw [q2]⟩))
  cases k2
  exact ⟨k1, rfl⟩
theorem apF_set {V : Nat → Int32} {kd sd set : Int32} (k : Nat) (hk : k < 32) : apF K S PP V kd sd (k + 1) &&& set = if (bt set k && apB K S PP V kd sd k) = true then (apF K S PP V kd sd k &&& set) ||| ((1 : Int32) <<< (nI k &&& 31)) else apF K S PP V kd sd k &&& set := by
  show (if apB K S PP V kd sd k = true then apF K S PP V kd sd k ||| ((1 : Int32) <<< (nI k &&& 31)) else apF K S PP V kd sd k) &&& set = _
  cases ha : apB K S PP V kd sd k with
  | false => rw [if_neg (by decide), Bool.and_false, if_neg (by decide)]
  | true =>
    rw [if_pos rfl, Bool.and_true]
    apply bt_ext
    intro i hi
    rw [bt_and, bt_or, one_bt k hk i hi]
    cases hs : bt set k with
    | true =>
      rw [if_pos rfl, bt_or, bt_and, one_bt k hk i hi]
      cases e : Nat.beq i k with
      | true =>
        have := Nat.eq_of_beq_eq_true e
        subst this
        rw [hs, Bool.or_true, Bool.or_true]; rfl
      | false => rw [Bool.or_false, Bool.or_false]
    | false =>
      rw [if_neg (by decide), bt_and]
      cases e : Nat.beq i k with
      | true =>
        have := Nat.eq_of_beq_eq_true e
        subst this
        rw [hs, Bool.and_false, Bool.and_false]
      | false => rw [Bool.or_false]
theorem m253 {set p kd led tr bf : Int32} (h : RCx PRG n 253 [.ref 97, .int set, .int p, .int kd, .int x, .int led, .int tr, .int bf] σ (some (.int w)) σ1) (hP : gPP nc PP) (hC : cpR lv nc PP σ) (hL : lcR lv nc K S σ) (hR : LR s r t lv σ) : jA σ σ1 ∧ w = apF K S PP (vaX r x led tr bf) kd (p - p / 2 * 2) nc &&& set ∧ ∀ i, i < 14 → σ1.1 123 i = vaX r x led tr bf i := by
  have h6 := hP.1
  obtain ⟨w', ew, hq⟩ := h.by (Q := fun v s' => ∃ w : Int32, v = some (.int w) ∧ (jA σ s' ∧ w = apF K S PP (vaX r x led tr bf) kd (p - p / 2 * 2) nc &&& set ∧ ∀ i, i < 14 → s'.1 123 i = vaX r x led tr bf i)) (fun m d => p_253_0 σ set p kd x led tr bf (fun σ2 h2 => by
    obtain ⟨f2, v2⟩ := m248 h2 hR
    have loop : ∀ (m k : Nat) (σ3 : Sg), k ≤ nc → jA σ σ3 → (∀ i, i < 14 → σ3.1 123 i = vaX r x led tr bf i) → Pl PRG m d 253 18 [(0, .ref 97), (1, .int set), (2, .int p), (3, .int kd), (8, .int (apF K S PP (vaX r x led tr bf) kd (p - p / 2 * 2) k &&& set)), (9, .int (nI k))] [] σ3 (fun v s' => ∃ w : Int32, v = some (.int w) ∧ (jA σ s' ∧ w = apF K S PP (vaX r x led tr bf) kd (p - p / 2 * 2) nc &&& set ∧ ∀ i, i < 14 → s'.1 123 i = vaX r x led tr bf i)) := by
      intro m
      induction m using Nat.strongRecOn with
      | _ m ih =>
        intro k σ3 hk hf hv
        have hL3 := hL.ja hf
        have hC3 := hC.ja hf
        refine Pl.pos (fun m1 hm1 => p_253_18 σ3 set p kd _ (nI k) (fun _ => ?_))
        rw [hL3.2.1, nI_clamp (by have := hL3.1; omega), hL3.2.2.1]
        refine ⟨fun cc => ?_, fun cc => ?_⟩
        · have ek : k = nc := by
            have := (nI_leI (a := nc) (b := k) (by omega) (by omega)).mp cc
            omega
          subst ek
          exact ⟨_, rfl, hf, rfl, hv⟩
        · have hlt : k < nc := nle_of (by omega) (by omega) cc
          have u := apF_set (K := K) (S := S) (PP := PP) (V := vaX r x led tr bf) (kd := kd) (sd := p - p / 2 * 2) (set := set) k (by omega)
          have at71 : ∀ (m2 : Nat), m2 < m → ∀ (y : Int32) (σ4 : Sg), jA σ σ4 → (∀ i, i < 14 → σ4.1 123 i = vaX r x led tr bf i) → y = apF K S PP (vaX r x led tr bf) kd (p - p / 2 * 2) (k + 1) &&& set → Pl PRG m2 d 253 71 [(0, .ref 97), (1, .int set), (2, .int p), (3, .int kd), (8, .int y), (9, .int (nI k))] [] σ4 (fun v s' => ∃ w : Int32, v = some (.int w) ∧ (jA σ s' ∧ w = apF K S PP (vaX r x led tr bf) kd (p - p / 2 * 2) nc &&& set ∧ ∀ i, i < 14 → s'.1 123 i = vaX r x led tr bf i)) := fun m2 hm2 y σ4 q1 q2 q3 => Pl.pos (fun m3 hm3 => p_253_71 σ4 set p kd y (nI k) (by
            rw [q3, nI_1]
            exact ih m3 (by omega) (k + 1) σ4 (by omega) q1 q2))
          refine ⟨fun b w4 σ4 h4 _ => ?_, fun b => at71 m1 (by omega) _ σ3 hf hv ?_⟩
          · have hb := (bt_sh1 set (by omega)).mp b
            obtain ⟨rfl, e4⟩ := m250 h4 hL3 hlt h6
            refine ⟨fun z => at71 m1 (by omega) _ _ hf hv ?_, fun z w6 σ6 h6' _ => ?_⟩
            · rw [e4] at z
              have hz := b2i_0.mp z
              have ha : apB K S PP (vaX r x led tr bf) kd (p - p / 2 * 2) k = false := by
                unfold apB
                rw [← Bool.and_assoc, hz]; rfl
              rw [u, ha, Bool.and_false, if_neg (by decide)]
            · have ho : (decide (K k = kd) && (decide (S k = 2) || decide (S k = p - p / 2 * 2))) = true := by
                cases hq : (decide (K k = kd) && (decide (S k = 2) || decide (S k = p - p / 2 * 2))) with
                | true => rfl
                | false => rw [e4, hq] at z; exact absurd rfl z
              obtain ⟨f6, e6⟩ := m251 h6' hP hlt hC3 hL3.1 hL3.2.1
              have eV : whB (fun i => σ4.1 123 i) (PP k).1 = whB (vaX r x led tr bf) (PP k).1 := whB_cg hv (hP.2 k hlt).1
              have ha : apB K S PP (vaX r x led tr bf) kd (p - p / 2 * 2) k = whB (vaX r x led tr bf) (PP k).1 := by
                unfold apB
                rw [← Bool.and_assoc, ho, Bool.true_and]
              have hv6 : ∀ i, i < 14 → σ6.1 123 i = vaX r x led tr bf i := fun i hi => (f6.1 123 i (by decide) (by omega)).trans (hv i hi)
              rw [eV] at e6
              refine ⟨fun z6 => at71 m1 (by omega) _ σ6 (hf.trans f6.a) hv6 ?_, fun z6 => at71 m1 (by omega) _ σ6 (hf.trans f6.a) hv6 ?_⟩
              · rw [e6] at z6
                rw [u, ha, b2i_0.mp z6, Bool.and_false, if_neg (by decide)]
              · have : whB (vaX r x led tr bf) (PP k).1 = true := by
                  cases hq : whB (vaX r x led tr bf) (PP k).1 with
                  | true => rfl
                  | false => rw [e6, hq] at z6; exact absurd rfl z6
                rw [u, ha, this, hb]; rfl
          · have hb : bt set k = false := by
              cases hq : bt set k with
              | false => rfl
              | true => exact absurd ((bt_sh1 set (by omega)).mpr hq) b
            rw [u, hb, Bool.false_and, if_neg (by decide)]
    have h0 : (0 : Int32) = apF K S PP (vaX r x led tr bf) kd (p - p / 2 * 2) 0 &&& set := by
      show (0 : Int32) = 0 &&& set
      apply bt_ext
      intro i _
      rw [bt_and, bt_0, Bool.false_and]
    have := loop m 0 σ2 (Nat.zero_le _) f2.a v2
    rw [← h0] at this
    exact this))
  cases ew
  exact hq
theorem m254 {c : Nat} {a led tr bf hd : Int32} (h : RCx PRG n 254 [.ref 97, .int a, .int (nI c), .int hd] σ (some (.int w)) σ1) (hP : gPP nc PP) (hC : cpR lv nc PP σ) (hL : lcR lv nc K S σ) (hO : lOK s r t) (hR : LR s r t lv σ) (hc : c < s * r) (hv : ∀ i, i < 5 → σ.1 123 i = vaX r (nI c) led tr bf i) : jA σ σ1 ∧ w = lyF PP (vsX s r t (nI c) led tr bf hd) a nc := by
  have h6 := hP.1
  obtain ⟨w', ew, hq⟩ := h.by (Q := fun v s' => ∃ w : Int32, v = some (.int w) ∧ (jA σ s' ∧ w = lyF PP (vsX s r t (nI c) led tr bf hd) a nc)) (fun m d => p_254_0 σ a (nI c) hd (fun σ2 h2 => by
    obtain ⟨f2, v2⟩ := m249 h2 hO hR hc hv
    have loop : ∀ (m k : Nat) (σ3 : Sg), k ≤ nc → jA σ σ3 → (∀ i, i < 14 → σ3.1 123 i = vsX s r t (nI c) led tr bf hd i) → Pl PRG m d 254 12 [(0, .ref 97), (1, .int a), (4, .int (lyF PP (vsX s r t (nI c) led tr bf hd) a k)), (5, .int (nI k))] [] σ3 (fun v s' => ∃ w : Int32, v = some (.int w) ∧ (jA σ s' ∧ w = lyF PP (vsX s r t (nI c) led tr bf hd) a nc)) := by
      intro m
      induction m using Nat.strongRecOn with
      | _ m ih =>
        intro k σ3 hk hf hv3
        have hL3 := hL.ja hf
        have hC3 := hC.ja hf
        refine Pl.pos (fun m1 hm1 => p_254_12 σ3 a _ (nI k) (fun _ => ?_))
        rw [hL3.2.1, nI_clamp (by have := hL3.1; omega), hL3.2.2.1]
        refine ⟨fun cc => ?_, fun cc => ?_⟩
        · have ek : k = nc := by
            have := (nI_leI (a := nc) (b := k) (by omega) (by omega)).mp cc
            omega
          subst ek
          exact ⟨_, rfl, hf, rfl⟩
        · have hlt : k < nc := nle_of (by omega) (by omega) cc
          have u : lyF PP (vsX s r t (nI c) led tr bf hd) a (k + 1) = if (bt a k && !whB (vsX s r t (nI c) led tr bf hd) (PP k).2) = true then lyF PP (vsX s r t (nI c) led tr bf hd) a k ||| ((1 : Int32) <<< (nI k &&& 31)) else lyF PP (vsX s r t (nI c) led tr bf hd) a k := rfl
          have at54 : ∀ (m2 : Nat), m2 < m → ∀ (y : Int32) (σ4 : Sg), jA σ σ4 → (∀ i, i < 14 → σ4.1 123 i = vsX s r t (nI c) led tr bf hd i) → y = lyF PP (vsX s r t (nI c) led tr bf hd) a (k + 1) → Pl PRG m2 d 254 54 [(0, .ref 97), (1, .int a), (4, .int y), (5, .int (nI k))] [] σ4 (fun v s' => ∃ w : Int32, v = some (.int w) ∧ (jA σ s' ∧ w = lyF PP (vsX s r t (nI c) led tr bf hd) a nc)) := fun m2 hm2 y σ4 q1 q2 q3 => Pl.pos (fun m3 hm3 => p_254_54 σ4 a y (nI k) (by
            rw [q3, nI_1]
            exact ih m3 (by omega) (k + 1) σ4 (by omega) q1 q2))
          refine ⟨fun b w4 σ4 h4 _ => ?_, fun b => at54 m1 (by omega) _ σ3 hf hv3 ?_⟩
          · have hb := (bt_sh1 a (by omega)).mp b
            obtain ⟨f4, e4⟩ := m252 h4 hP hlt hC3 hL3.1 hL3.2.1
            rw [whB_cg hv3 (hP.2 k hlt).2.2.1] at e4
            have hv4 : ∀ i, i < 14 → σ4.1 123 i = vsX s r t (nI c) led tr bf hd i := fun i hi => (f4.1 123 i (by decide) (by omega)).trans (hv3 i hi)
            refine ⟨fun z => at54 m1 (by omega) _ σ4 (hf.trans f4.a) hv4 ?_, fun z => at54 m1 (by omega) _ σ4 (hf.trans f4.a) hv4 ?_⟩
            · rw [e4] at z
              rw [u, hb, b2i_0.mp z]
              rfl
            · have : whB (vsX s r t (nI c) led tr bf hd) (PP k).2 = true := by
                cases hq : whB (vsX s r t (nI c) led tr bf hd) (PP k).2 with
                | true => rfl
                | false => rw [e4, hq] at z; exact absurd rfl z
              rw [u, hb, this, if_neg (by decide)]
          · have hb : bt a k = false := by
              cases hq : bt a k with
              | false => rfl
              | true => exact absurd ((bt_sh1 a (by omega)).mpr hq) b
            rw [u, hb, Bool.false_and, if_neg (by decide)]
    exact loop m 0 σ2 (Nat.zero_le _) f2.a v2))
  cases ew
  exact hq
end Am
