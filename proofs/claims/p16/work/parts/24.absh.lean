/-! ranges: the instructions that read or write cells -/
def layCk : Bool := (List.range LAY.length).all (fun q => match knd q with
  | some K => if Nat.beq K.1 0 then (List.range K.2.2.length).all (fun k => match K.2.2[k]? with
      | some f => !(Nat.beq f.1 2) || decide (kdn (tg q k) = some f.2)
      | none => true) else if Nat.ble 5 K.1 then (match K.2.2[0]? with
      | some f => (List.range K.2.1).all (fun j => decide (kdn (tg q j) = some f.2))
      | none => true) else true
  | none => true)
set_option maxRecDepth 100000 in
theorem layCk_ok : layCk = true := by decide +kernel
set_option maxRecDepth 100000 in
theorem lay_len : LAY.length ≤ 1000 := by decide +kernel
theorem lay_f {q κ c k κ' : Nat} {fs : List (Nat × Nat)} (h1 : kdn q = some κ) (h2 : KND[κ]? = some (0, c, fs)) (h3 : fs[k]? = some (2, κ')) : kdn (tg q k) = some κ' := by
  have hk : knd q = some (0, c, fs) := by rw [kdn_knd h1, h2]
  have h := List.all_eq_true.mp layCk_ok q (List.mem_range.mpr (knd_lt hk))
  simp only [hk] at h
  have hlt : k < fs.length := (List.getElem?_eq_some_iff.mp h3).1
  have h2 := List.all_eq_true.mp h k (List.mem_range.mpr hlt)
  simp only [h3] at h2
  simpa using h2
theorem lay_a {q κ t n j κ' ft : Nat} {r : List (Nat × Nat)} (h1 : kdn q = some κ) (h2 : KND[κ]? = some (t, n, (ft, κ') :: r)) (h5 : 5 ≤ t) (hj : j < n) : kdn (tg q j) = some κ' := by
  have hk : knd q = some (t, n, (ft, κ') :: r) := by rw [kdn_knd h1, h2]
  have h := List.all_eq_true.mp layCk_ok q (List.mem_range.mpr (knd_lt hk))
  simp only [hk] at h
  have hb : Nat.beq t 0 = false := by cases t with
    | zero => omega
    | succ t => rfl
  rw [hb] at h
  rw [Nat.ble_eq_true_of_le h5] at h
  simp only [List.getElem?_cons_zero, if_true] at h
  have h2 := List.all_eq_true.mp h j (List.mem_range.mpr hj)
  simpa using h2
def kn (S : List SI) (s : Nat) : Nat := (gS S s).2.1.toNat
def cover (segs : List SEG) (a b : Nat) : Option SEG := segs.find? (fun g => Nat.ble g.1 a && Nat.ble b g.2.1)
def ldRg (TY : List (List SEG)) (κ a b : Nat) : Int × Int := match cover (TY.getD κ []) a b with
  | some g => (g.2.2.1, g.2.2.2)
  | none => (FL, FH)
theorem ldRg_ok {TY : List (List SEG)} {σ : Sg} {q κ a b k : Nat} (ht : typed TY σ) (hq : kdn q = some κ) (h1 : a ≤ k) (h2 : k ≤ b) : (ldRg TY κ a b).1 ≤ (σ.1 q k).toInt ∧ (σ.1 q k).toInt ≤ (ldRg TY κ a b).2 := by
  unfold ldRg
  split
  · rename_i g hg
    unfold cover at hg
    have hm := List.mem_of_find?_eq_some hg
    have hp := List.find?_some hg
    simp only [Bool.and_eq_true] at hp
    exact ht.1 q κ hq g hm k (Nat.le_trans (Nat.le_of_ble_eq_true hp.1) h1) (Nat.le_trans h2 (Nat.le_of_ble_eq_true hp.2))
  · exact ⟨w_lo _, w_hi _⟩
def wrOK (TY : List (List SEG)) (ms dep : List (Nat × Nat × Nat)) (κ a b : Nat) (vl vh : Int) : Bool := (TY.getD κ []).all (fun g => (Nat.blt b g.1 || Nat.blt g.2.1 a) || decide (g.2.2.1 ≤ vl ∧ vh ≤ g.2.2.2)) && (ms.any (fun m => Nat.beq m.1 κ && (Nat.ble m.2.1 a && Nat.ble b m.2.2)) && dep.all (fun m => !(Nat.beq m.1 κ) || (Nat.blt b m.2.1 || Nat.blt m.2.2 a)))
def stab (I : Sg → Prop) (dep : List (Nat × Nat × Nat)) : Prop := (∀ σ q κ k x, kdn q = some κ → inM dep κ k = false → I σ → I (s1 σ q k x)) ∧ ∀ σ q k x, I σ → I (s2 σ q k x)
theorem s1_at (σ : Sg) (q k : Nat) (x : Int32) (q' k' : Nat) : (s1 σ q k x).1 q' k' = if q' = q ∧ k' = k then x else σ.1 q' k' := rfl
theorem wr_glo {TY : List (List SEG)} {I : Sg → Prop} {ms dep : List (Nat × Nat × Nat)} {σ0 σ : Sg} {q κ a b k : Nat} {vl vh : Int} {x : Int32} (hst : stab I dep) (h : wrOK TY ms dep κ a b vl vh = true) (hG : Glo TY I ms σ0 σ) (hq : kdn q = some κ) (h1 : a ≤ k) (h2 : k ≤ b) (hx1 : vl ≤ x.toInt) (hx2 : x.toInt ≤ vh) (hnr : ∀ c fs κ', KND[κ]? = some (0, c, fs) → fs[k]? = some (3, κ') → x = 0 ∨ ∃ q' : Nat, 0 < q' ∧ q' < 1000 ∧ x = Int32.ofNat q' ∧ kdn q' = some κ') : Glo TY I ms σ0 (s1 σ q k x) := by
  obtain ⟨g1, g2, g3⟩ := hG
  unfold wrOK at h
  simp only [Bool.and_eq_true] at h
  obtain ⟨c1, c2, c3⟩ := h
  refine ⟨⟨?_, ?_⟩, ?_, ?_⟩
  · intro q' κ' hq' g hg k' l1 l2
    rw [s1_at]
    split
    · rename_i he
      obtain ⟨rfl, rfl⟩ := he
      rw [hq] at hq'
      cases hq'
      have := List.all_eq_true.mp c1 g hg
      simp only [Bool.or_eq_true, decide_eq_true_eq] at this
      rcases this with (e | e) | e
      · have := Nat.le_of_ble_eq_true e; omega
      · have := Nat.le_of_ble_eq_true e; omega
      · omega
    · exact g1.1 q' κ' hq' g hg k' l1 l2
  · intro q' κ1 c fs k' κ' hq' hk hf
    rw [s1_at]
    split
    · rename_i he
      obtain ⟨rfl, rfl⟩ := he
      rw [hq] at hq'
      cases hq'
      exact hnr c fs κ' hk hf
    · exact g1.2 q' κ1 c fs k' κ' hq' hk hf
  · refine hst.1 σ q κ k x hq ?_ g2
    unfold inM
    rw [List.any_eq_false]
    intro m hm
    have := List.all_eq_true.mp c3 m hm
    simp only [Bool.or_eq_true, Bool.not_eq_true'] at this
    simp only [Bool.and_eq_true, not_and, Bool.not_eq_true]
    intro e1 e2
    rcases this with e | e | e
    · rw [e1] at e; cases e
    · have := Nat.le_of_ble_eq_true e
      have := Nat.le_of_ble_eq_true e2
      omega
    · have := Nat.le_of_ble_eq_true e
      cases hb : Nat.ble k m.2.2 with
      | false => rfl
      | true => have := Nat.le_of_ble_eq_true hb; omega
  · intro q' κ' k' hq' hm
    rw [s1_at]
    split
    · rename_i he
      obtain ⟨rfl, rfl⟩ := he
      rw [hq] at hq'
      cases hq'
      obtain ⟨m, hm1, hm2⟩ := List.any_eq_true.mp c2
      simp only [Bool.and_eq_true] at hm2
      have : inM ms κ k' = true := by
        unfold inM
        rw [List.any_eq_true]
        refine ⟨m, hm1, ?_⟩
        simp only [Bool.and_eq_true]
        exact ⟨hm2.1, Nat.ble_eq_true_of_le (Nat.le_trans (Nat.le_of_ble_eq_true hm2.2.1) h1), Nat.ble_eq_true_of_le (Nat.le_trans h2 (Nat.le_of_ble_eq_true hm2.2.2))⟩
      rw [this] at hm
      cases hm
    · exact g3 q' κ' k' hq' hm
def kill (S : List SI) (κ a b : Nat) (M : List ME) : List ME := M.filter (fun e => match e.1 with
  | 0 => !(Nat.beq (kn S e.2.1) κ && (Nat.ble a e.2.2.1 && Nat.ble e.2.2.1 b))
  | 1 => !(Nat.beq (kn S e.2.1) κ)
  | _ => true)
def eqS (S : List SI) (s t : Nat) : Bool := Nat.beq s t || (tag S s 0 && (tag S t 0 && ((Nat.beq (gS S s).2.2.2.1 (gS S t).2.2.2.1 && decide ((gS S s).2.2.2.2.1 = (gS S t).2.2.2.2.1)) || decide ((ivl S s).1 = (ivl S s).2 ∧ (ivl S t).1 = (ivl S s).1 ∧ (ivl S t).2 = (ivl S s).1))))
def fdM (M : List ME) (f : ME → Bool) : Option Nat := (M.find? f).map (fun e => e.2.2.2)
def mF (r k : Nat) : ME → Bool := fun e => Nat.beq e.1 0 && (Nat.beq e.2.1 r && Nat.beq e.2.2.1 k)
def mR (r k : Nat) : ME → Bool := fun e => Nat.beq e.1 2 && (Nat.beq e.2.1 r && Nat.beq e.2.2.1 k)
def mA (S : List SI) (r i : Nat) : ME → Bool := fun e => Nat.beq e.1 1 && (Nat.beq e.2.1 r && eqS S e.2.2.1 i)
def gfA (TY : List (List SEG)) (ex : List Nat) (a : AS) : Option AS := match a.2.2.1, ex with
  | r :: K, ci :: k :: _ => if tag a.1 r 1 then match KND[kn a.1 r]? with
    | some (0, c, fs) => if Nat.beq c ci then match fs[k]? with
      | some (ft, κ') => if Nat.ble ft 1 then match fdM a.2.2.2 (mF r k) with
          | some v => some (a.1, a.2.1, v :: K, a.2.2.2)
          | none => some (a.1 ++ [(0, (ldRg TY (kn a.1 r) k k).1, (ldRg TY (kn a.1 r) k k).2, a.1.length, 0, [])], a.2.1, a.1.length :: K, (0, r, k, a.1.length) :: a.2.2.2)
        else if Nat.beq ft 2 then match fdM a.2.2.2 (mR r k) with
          | some v => some (a.1, a.2.1, v :: K, a.2.2.2)
          | none => some (a.1 ++ [(1, (κ' : Int), 0, 0, 0, [])], a.2.1, a.1.length :: K, (2, r, k, a.1.length) :: a.2.2.2)
        else if Nat.beq ft 3 then some (a.1 ++ [(2, (κ' : Int), 0, 0, 0, [])], a.2.1, a.1.length :: K, a.2.2.2)
        else none
      | none => none
      else none
    | _ => none
    else none
  | _, _ => none
def pfN (TY : List (List SEG)) (ms dep : List (Nat × Nat × Nat)) (ex : List Nat) (a : AS) : Option AS := match a.2.2.1, ex with
  | v :: r :: K, ci :: k :: _ => if tag a.1 r 1 && (tag a.1 v 1 || tag a.1 v 2) then match KND[kn a.1 r]? with
    | some (0, c, fs) => if Nat.beq c ci then match fs[k]? with
      | some (ft, κ') => if Nat.beq ft 3 && (Nat.beq (kn a.1 v) κ' && (decide (¬ kdn 0 = some κ') && wrOK TY ms dep (kn a.1 r) k k 0 999)) then some (a.1, a.2.1, K, kill a.1 (kn a.1 r) k k a.2.2.2) else none
      | none => none
      else none
    | _ => none
    else none
  | _, _ => none
def pfA (TY : List (List SEG)) (ms dep : List (Nat × Nat × Nat)) (ex : List Nat) (a : AS) : Option AS := match a.2.2.1, ex with
  | v :: r :: K, ci :: k :: _ => if tag a.1 r 1 && tag a.1 v 0 then match KND[kn a.1 r]? with
    | some (0, c, fs) => if Nat.beq c ci then match fs[k]? with
      | some (ft, _) => if (Nat.beq ft 0 || (Nat.beq ft 1 && decide (0 ≤ (ivl a.1 v).1 ∧ (ivl a.1 v).2 ≤ 1))) && wrOK TY ms dep (kn a.1 r) k k (ivl a.1 v).1 (ivl a.1 v).2 then some (a.1, a.2.1, K, (0, r, k, v) :: kill a.1 (kn a.1 r) k k a.2.2.2) else none
      | none => none
      else none
    | _ => none
    else none
  | _, _ => none
def ixOK (S : List SI) (i n : Nat) : Bool := decide (0 ≤ (ivl S i).1 ∧ (ivl S i).2 < (n : Int))
def laA (TY : List (List SEG)) (p : Nat → Bool) (a : AS) : Option AS := match a.2.2.1 with
  | i :: r :: K => if tag a.1 r 1 && tag a.1 i 0 then match KND[kn a.1 r]? with
    | some (t, n, _) => if p t && ixOK a.1 i n then match fdM a.2.2.2 (mA a.1 r i) with
        | some v => some (a.1, a.2.1, v :: K, a.2.2.2)
        | none => some (a.1 ++ [(0, (ldRg TY (kn a.1 r) (ivl a.1 i).1.toNat (ivl a.1 i).2.toNat).1, (ldRg TY (kn a.1 r) (ivl a.1 i).1.toNat (ivl a.1 i).2.toNat).2, a.1.length, 0, [])], a.2.1, a.1.length :: K, (1, r, i, a.1.length) :: a.2.2.2)
      else none
    | none => none
    else none
  | _ => none
def hpA (TY : List (List SEG)) (ms dep : List (Nat × Nat × Nat)) (i : Instr) (ex : List Nat) (a : AS) : Option AS := match i with
  | .getfield _ => gfA TY ex a
  | .putfield _ => (pfA TY ms dep ex a).or (pfN TY ms dep ex a)
  | .iaload => laA TY (fun t => Nat.beq t 1) a
  | .baload => laA TY (fun t => Nat.beq t 2 || Nat.beq t 3) a
  | .laload => match a.2.2.1 with
    | i :: r :: K => if tag a.1 r 1 && tag a.1 i 0 then match KND[kn a.1 r]? with
      | some (t, n, _) => if Nat.beq t 4 && ixOK a.1 i n then some (pcJ a.1 a.2.1 K a.2.2.2) else none
      | none => none
      else none
    | _ => none
  | .aaload => match a.2.2.1 with
    | i :: r :: K => if tag a.1 r 1 && tag a.1 i 0 then match KND[kn a.1 r]? with
      | some (t, n, (_, κ') :: _) => if Nat.ble 5 t && (Nat.ble t 7 && ixOK a.1 i n) then some (a.1 ++ [(1, (κ' : Int), 0, 0, 0, [])], a.2.1, a.1.length :: K, a.2.2.2) else none
      | _ => none
      else none
    | _ => none
  | .iastore => match a.2.2.1 with
    | v :: i :: r :: K => if tag a.1 r 1 && (tag a.1 i 0 && tag a.1 v 0) then match KND[kn a.1 r]? with
      | some (t, n, _) => if Nat.beq t 1 && (ixOK a.1 i n && wrOK TY ms dep (kn a.1 r) (ivl a.1 i).1.toNat (ivl a.1 i).2.toNat (ivl a.1 v).1 (ivl a.1 v).2) then some (a.1, a.2.1, K, (1, r, i, v) :: kill a.1 (kn a.1 r) (ivl a.1 i).1.toNat (ivl a.1 i).2.toNat a.2.2.2) else none
      | none => none
      else none
    | _ => none
  | .bastore => match a.2.2.1 with
    | v :: i :: r :: K => if tag a.1 r 1 && (tag a.1 i 0 && tag a.1 v 0) then match KND[kn a.1 r]? with
      | some (t, n, _) => if Nat.beq t 2 && (ixOK a.1 i n && wrOK TY ms dep (kn a.1 r) (ivl a.1 i).1.toNat (ivl a.1 i).2.toNat (-128) 127) then some (a.1, a.2.1, K, kill a.1 (kn a.1 r) (ivl a.1 i).1.toNat (ivl a.1 i).2.toNat a.2.2.2)
        else if Nat.beq t 3 && (ixOK a.1 i n && wrOK TY ms dep (kn a.1 r) (ivl a.1 i).1.toNat (ivl a.1 i).2.toNat 0 1) then some (a.1, a.2.1, K, kill a.1 (kn a.1 r) (ivl a.1 i).1.toNat (ivl a.1 i).2.toNat a.2.2.2) else none
      | none => none
      else none
    | _ => none
  | .lastore => match a.2.2.1 with
    | v :: i :: r :: K => if tag a.1 r 1 && (tag a.1 i 0 && tag a.1 v 3) then match KND[kn a.1 r]? with
      | some (t, n, _) => if Nat.beq t 4 && ixOK a.1 i n then some (a.1, a.2.1, K, a.2.2.2) else none
      | none => none
      else none
    | _ => none
  | .arraylength => match a.2.2.1 with
    | r :: K => if tag a.1 r 1 then match KND[kn a.1 r]? with
      | some (t, n, _) => if Nat.ble 1 t && (Nat.ble t 7 && Nat.blt n 2147483648) then some (a.1 ++ [(0, (n : Int), (n : Int), a.1.length, 0, [])], a.2.1, a.1.length :: K, a.2.2.2) else none
      | none => none
      else none
    | _ => none
  | _ => none
section AbsH
variable {TY : List (List SEG)} {I : Sg → Prop} {ms dep : List (Nat × Nat × Nat)} {σ0 σ : Sg} {ρ0 ρ : List Value} {S : List SI} {L : List (Nat × Nat)} {K : List Nat} {M : List ME} {a a' : AS} {ls : Lcl} {st : List Value}
theorem Rel.kind (h : Rel ρ0 ρ (S, L, K, M) ls st σ) {s q : Nat} (hv : ρ[s]? = some (.ref q)) : kdn q = some (kn S s) := by
  have hlt : s < S.length := by have := (List.getElem?_eq_some_iff.mp hv).1; rw [h.1] at this; exact this
  have hs : S[s]? = some (gS S s) := by unfold gS; rw [List.getElem?_eq_getElem hlt]; rfl
  obtain ⟨w, g1, g2⟩ := h.val hs
  rw [hv] at g1
  cases g1
  unfold okS at g2
  unfold kn
  split at g2
  · obtain ⟨w, h1, -⟩ := g2; cases h1
  · obtain ⟨w, h1, h2⟩ := g2; cases h1; exact h2
  · rcases g2 with h1 | ⟨w, h1, h2⟩
    · cases h1
    · cases h1; exact h2
  · obtain ⟨w, h1⟩ := g2; cases h1
/-- a write: what is kept of the memory -/
theorem Rel.wr (h : Rel ρ0 ρ (S, L, K, M) ls st σ) {q κ x1 b k : Nat} {x : Int32} (hq : kdn q = some κ) (h1 : x1 ≤ k) (h2 : k ≤ b) : Rel ρ0 ρ (S, L, K, kill S κ x1 b M) ls st (s1 σ q k x) := by
  have hkd := fun (s q : Nat) (hv : ρ[s]? = some (.ref q)) => h.kind hv
  refine ⟨h.1, h.2.1, h.2.2.1, h.2.2.2.1, ?_, h.2.2.2.2.2⟩
  intro e he
  obtain ⟨he1, he2⟩ := List.mem_filter.mp he
  have hok := h.2.2.2.2.1 e he1
  unfold memOK at hok ⊢
  split at hok
  · rename_i e0
    obtain ⟨q', g1, g2⟩ := hok
    refine ⟨q', g1, ?_⟩
    rw [g2, s1_at]
    split
    · rename_i hc
      obtain ⟨rfl, hc2⟩ := hc
      have := hkd _ _ g1
      rw [hq] at this
      cases this
      rw [e0] at he2
      simp only [Bool.not_eq_true', Bool.and_eq_false_iff] at he2
      rcases he2 with e1 | e1 | e1
      · rw [Nat.beq_refl] at e1; cases e1
      · rw [hc2, Nat.ble_eq_true_of_le h1] at e1; cases e1
      · rw [hc2, Nat.ble_eq_true_of_le h2] at e1; cases e1
    · rfl
  · rename_i e0
    obtain ⟨q', j, g1, g2, g3⟩ := hok
    refine ⟨q', j, g1, g2, ?_⟩
    rw [g3, s1_at]
    split
    · rename_i hc
      obtain ⟨rfl, hc2⟩ := hc
      have := hkd _ _ g1
      rw [hq] at this
      cases this
      rw [e0] at he2
      simp only [Bool.not_eq_true'] at he2
      rw [Nat.beq_refl] at he2
      cases he2
    · rfl
  · exact hok
  · exact hok
  · exact hok
  · exact hok
  · exact hok
  · trivial
theorem Rel.wr2 (h : Rel ρ0 ρ (S, L, K, M) ls st σ) (q k : Nat) (x : Int64) : Rel ρ0 ρ (S, L, K, M) ls st (s2 σ q k x) := h
theorem fdM_some {f : ME → Bool} {v : Nat} (h : fdM M f = some v) : ∃ e ∈ M, f e = true ∧ e.2.2.2 = v := by
  unfold fdM at h
  cases hf : M.find? f with
  | none => rw [hf] at h; cases h
  | some e => rw [hf] at h; cases h; exact ⟨e, List.mem_of_find?_eq_some hf, List.find?_some hf, rfl⟩
theorem eqS_ok (h : Rel ρ0 ρ (S, L, K, M) ls st σ) {s t : Nat} {x y : Int32} (he : eqS S s t = true) (hx : ρ[s]? = some (.int x)) (hy : ρ[t]? = some (.int y)) : x = y := by
  unfold eqS at he
  simp only [Bool.or_eq_true, Bool.and_eq_true, decide_eq_true_eq] at he
  rcases he with e | ⟨t1, t2, e⟩
  · have := Nat.eq_of_beq_eq_true e
    subst this
    rw [hx] at hy; cases hy; rfl
  · obtain ⟨w1, f1, f2, f3, z1, ⟨u1, p1, p2⟩, p3⟩ := h.int (tag_eq t1)
    obtain ⟨w2, f4, f5, f6, z2, ⟨u2, r1, r2⟩, r3⟩ := h.int (tag_eq t2)
    rw [hx] at f1; cases f1
    rw [hy] at f4; cases f4
    apply Int32.toInt_inj.mp
    rcases e with ⟨e1, e2⟩ | e
    · rw [Nat.eq_of_beq_eq_true e1] at p1
      rw [p1] at r1
      cases r1
      omega
    · omega
theorem ix_in (h : Rel ρ0 ρ (S, L, K, M) ls st σ) {i n : Nat} {w : Int32} (ht : tag S i 0 = true) (hi : ixOK S i n = true) (hw : ρ[i]? = some (.int w)) : inR w n = true ∧ (ivl S i).1.toNat ≤ w.toNatClampNeg ∧ w.toNatClampNeg ≤ (ivl S i).2.toNat ∧ w.toNatClampNeg < n := by
  obtain ⟨w1, f1, f2, f3, -⟩ := h.int (tag_eq ht)
  rw [hw] at f1; cases f1
  have hi := of_decide_eq_true hi
  have hin : vp_in w n := vp_in_iff.mpr (by omega)
  have hc : (w.toNatClampNeg : Int) = w.toInt := by
    unfold Int32.toNatClampNeg
    exact Int.toNat_of_nonneg (by omega)
  refine ⟨?_, by omega, by omega, by omega⟩
  unfold inR
  unfold vp_in at hin
  simpa using hin
theorem gfA_ok {ex : List Nat} (hr : Rel ρ0 ρ a ls st σ) (hG : Glo TY I ms σ0 σ) (h : gfA TY ex a = some a') : ∃ ρ' st', getF ex st σ = some (st', σ) ∧ Rel ρ0 ρ' a' ls st' σ := by
  obtain ⟨S, L, K, M⟩ := a
  unfold gfA at h
  split at h
  · rename_i r K' ci k rx hK
    simp only at hK
    subst hK
    split at h
    · rename_i ht
      split at h
      · rename_i c fs hk
        split at h
        · rename_i hc
          have hc := Nat.eq_of_beq_eq_true hc
          subst hc
          split at h
          · rename_i ft κ' hf
            obtain ⟨v, r0, rfl, e1, hr1⟩ := hr.pop
            obtain ⟨q, rfl⟩ := hr.isA e1 (tag_eq ht)
            have hkd := hr.kind e1
            have hkn : knd q = some (0, c, fs) := by rw [kdn_knd hkd]; exact hk
            have hget : getF (c :: k :: rx) (.ref q :: r0) σ = some (fV σ q k ft :: r0, σ) := by
              unfold getF
              simp only [hkn, if_true, hf, Option.map_some]
            split at h
            · rename_i hft
              have hft := Nat.le_of_ble_eq_true hft
              have hfv : fV σ q k ft = .int (σ.1 q k) := by
                have : ft = 0 ∨ ft = 1 := by omega
                rcases this with rfl | rfl <;> rfl
              rw [hfv] at hget
              split at h
              · rename_i v hv
                cases h
                obtain ⟨e, he, hp, rfl⟩ := fdM_some hv
                unfold mF at hp
                simp only [Bool.and_eq_true] at hp
                have hok := hr.2.2.2.2.1 e he
                unfold memOK at hok
                rw [Nat.eq_of_beq_eq_true hp.1] at hok
                obtain ⟨q', g1, g2⟩ := hok
                rw [Nat.eq_of_beq_eq_true hp.2.1, e1] at g1
                cases g1
                rw [Nat.eq_of_beq_eq_true hp.2.2] at g2
                exact ⟨ρ, _, hget, hr1.push g2⟩
              · cases h
                have hb := ldRg_ok hG.1 hkd (Nat.le_refl k) (Nat.le_refl k)
                have hp := hr1.pushN (v := .int (σ.1 q k)) (okS_new hr1.1 hb.1 hb.2)
                refine ⟨_, _, hget, memAdd hp ⟨q, at_app _ e1, ?_⟩⟩
                exact hr1.grow (v := .int (σ.1 q k)) (okS_new hr1.1 hb.1 hb.2) |>.2
            · split at h
              · rename_i hft
                have hft := Nat.eq_of_beq_eq_true hft
                subst hft
                have hfv : fV σ q k 2 = .ref (tg q k) := rfl
                rw [hfv] at hget
                split at h
                · rename_i v hv
                  cases h
                  obtain ⟨e, he, hp, rfl⟩ := fdM_some hv
                  unfold mR at hp
                  simp only [Bool.and_eq_true] at hp
                  have hok := hr.2.2.2.2.1 e he
                  unfold memOK at hok
                  rw [Nat.eq_of_beq_eq_true hp.1] at hok
                  obtain ⟨q', g1, g2⟩ := hok
                  rw [Nat.eq_of_beq_eq_true hp.2.1, e1] at g1
                  cases g1
                  rw [Nat.eq_of_beq_eq_true hp.2.2] at g2
                  exact ⟨ρ, _, hget, hr1.push g2⟩
                · cases h
                  have hok : okS (ρ ++ [Value.ref (tg q k)]) (1, (κ' : Int), 0, 0, 0, []) (.ref (tg q k)) := ⟨_, rfl, lay_f hkd hk hf⟩
                  have hp := hr1.pushN (v := .ref (tg q k)) hok
                  exact ⟨_, _, hget, memAdd hp ⟨q, at_app _ e1, (hr1.grow (v := .ref (tg q k)) hok).2⟩⟩
              · split at h
                · rename_i hft
                  have hft := Nat.eq_of_beq_eq_true hft
                  subst hft
                  cases h
                  refine ⟨_, _, hget, hr1.pushN ?_⟩
                  rcases hG.1.2 q _ c fs k κ' hkd hk hf with e0 | ⟨q', p1, p2, p3, p4⟩
                  · exact Or.inl (by simp [fV, e0])
                  · refine Or.inr ⟨q', ?_, by simpa using p4⟩
                    have h1 : (Int32.ofNat q').toInt = q' := Int32.toInt_ofNat_of_lt (Nat.lt_trans p2 (by decide))
                    have h2 : (Int32.ofNat q').toNatClampNeg = q' := by unfold Int32.toNatClampNeg; rw [h1]; rfl
                    have h3 : ¬ Int32.ofNat q' = 0 := fun e => by
                      rw [e] at h1
                      have : (0 : Int32).toInt = 0 := rfl
                      omega
                    simp only [fV, p3, h2]
                    rw [if_neg h3]
                · cases h
          · cases h
        · cases h
      · cases h
    · cases h
  · cases h
theorem pfA_ok {ex : List Nat} (hst : stab I dep) (hr : Rel ρ0 ρ a ls st σ) (hG : Glo TY I ms σ0 σ) (h : pfA TY ms dep ex a = some a') : ∃ st' σ', putF ex st σ = some (st', σ') ∧ Rel ρ0 ρ a' ls st' σ' ∧ Glo TY I ms σ0 σ' := by
  obtain ⟨S, L, K, M⟩ := a
  unfold pfA at h
  split at h
  · rename_i v r K' ci k rx hK
    simp only at hK
    subst hK
    split at h
    · rename_i ht
      rw [Bool.and_eq_true] at ht
      split at h
      · rename_i c fs hk
        split at h
        · rename_i hc
          have hc := Nat.eq_of_beq_eq_true hc
          subst hc
          split at h
          · rename_i ft κ' hf
            split at h
            · rename_i hw
              rw [Bool.and_eq_true] at hw
              cases h
              obtain ⟨vv, r0, rfl, e1, hr1⟩ := hr.pop
              obtain ⟨vr, r1, rfl, e2, hr2⟩ := hr1.pop
              obtain ⟨q, rfl⟩ := hr.isA e2 (tag_eq ht.1)
              obtain ⟨x, f1, f2, f3, -⟩ := hr.int (tag_eq ht.2)
              rw [e1] at f1; cases f1
              have hkd := hr.kind e2
              have hkn : knd q = some (0, c, fs) := by rw [kdn_knd hkd]; exact hk
              have hput : putF (c :: k :: rx) (.int x :: .ref q :: r1) σ = some (r1, s1 σ q k x) := by
                unfold putF
                simp only [hkn, if_true, hf, Option.bind_some]
                simp only [Bool.or_eq_true, Bool.and_eq_true, decide_eq_true_eq] at hw
                rcases hw.1 with e0 | ⟨e0, e3⟩
                · rw [Nat.eq_of_beq_eq_true e0]; rfl
                · rw [Nat.eq_of_beq_eq_true e0]
                  have : x = 0 ∨ x = 1 := by
                    have : x.toInt = 0 ∨ x.toInt = 1 := by omega
                    rcases this with e | e
                    · exact Or.inl (Int32.toInt_inj.mp e)
                    · exact Or.inr (Int32.toInt_inj.mp e)
                  simp [putV, this]
              refine ⟨r1, _, hput, ?_, wr_glo hst hw.2 hG hkd (Nat.le_refl k) (Nat.le_refl k) f2 f3 (fun c9 fs9 κ9 h9 h8 => by
                rw [hk] at h9
                cases h9
                rw [hf] at h8
                cases h8
                have hw1 := hw.1
                simp [Nat.beq] at hw1)⟩
              refine memAdd (hr2.wr hkd (Nat.le_refl k) (Nat.le_refl k)) ⟨q, e2, ?_⟩
              rw [s1_at, if_pos ⟨rfl, rfl⟩]
              exact e1
            · cases h
          · cases h
        · cases h
      · cases h
    · cases h
  · cases h
theorem pfN_ok {ex : List Nat} (hst : stab I dep) (hr : Rel ρ0 ρ a ls st σ) (hG : Glo TY I ms σ0 σ) (h : pfN TY ms dep ex a = some a') : ∃ st' σ', putF ex st σ = some (st', σ') ∧ Rel ρ0 ρ a' ls st' σ' ∧ Glo TY I ms σ0 σ' := by
  obtain ⟨S, L, K, M⟩ := a
  unfold pfN at h
  split at h
  · rename_i v r K' ci k rx hK
    simp only at hK
    subst hK
    split at h
    · rename_i ht
      rw [Bool.and_eq_true] at ht
      split at h
      · rename_i c fs hk
        split at h
        · rename_i hc
          have hc := Nat.eq_of_beq_eq_true hc
          subst hc
          split at h
          · rename_i ft κ' hf
            split at h
            · rename_i hw
              simp only [Bool.and_eq_true, decide_eq_true_eq] at hw
              obtain ⟨w1, w2, w3, w4⟩ := hw
              have w1 := Nat.eq_of_beq_eq_true w1
              subst w1
              have w2 := Nat.eq_of_beq_eq_true w2
              cases h
              obtain ⟨vv, r0, rfl, e1, hr1⟩ := hr.pop
              obtain ⟨vr, r1, rfl, e2, hr2⟩ := hr1.pop
              obtain ⟨q, rfl⟩ := hr.isA e2 (tag_eq ht.1)
              have hkd := hr.kind e2
              have hkn : knd q = some (0, c, fs) := by rw [kdn_knd hkd]; exact hk
              have hval : vv = .null ∨ ∃ q', vv = .ref q' ∧ kdn q' = some κ' := by
                rcases Bool.or_eq_true_iff.mp ht.2 with t1 | t1
                · obtain ⟨q', rfl⟩ := hr.isA e1 (tag_eq t1)
                  exact Or.inr ⟨q', rfl, by rw [← w2]; exact hr.kind e1⟩
                · obtain ⟨v9, g1, g2⟩ := hr.val (gS_some (tag_eq t1) (by decide))
                  rw [e1] at g1
                  cases g1
                  unfold okS at g2
                  rw [tag_eq t1] at g2
                  rcases g2 with g2 | ⟨q', g2, g3⟩
                  · exact Or.inl g2
                  · exact Or.inr ⟨q', g2, by rw [← w2]; exact g3⟩
              rcases hval with rfl | ⟨q', rfl, hq'⟩
              · have hput : putF (c :: k :: rx) (.null :: .ref q :: r1) σ = some (r1, s1 σ q k 0) := by
                  unfold putF
                  simp only [hkn, if_true, hf, Option.bind_some]
                  rfl
                exact ⟨r1, _, hput, hr2.wr hkd (Nat.le_refl k) (Nat.le_refl k), wr_glo hst w4 hG hkd (Nat.le_refl k) (Nat.le_refl k) (by decide) (by decide) (fun _ _ _ _ _ => Or.inl rfl)⟩
              · have hlt : q' < LAY.length := by
                  unfold kdn at hq'
                  cases hl : LAY[q']? with
                  | none => rw [hl] at hq'; cases hq'
                  | some z => exact (List.getElem?_eq_some_iff.mp hl).1
                have hlt2 : q' < 1000 := Nat.lt_of_lt_of_le hlt lay_len
                have hpos : 0 < q' := by
                  rcases Nat.eq_zero_or_pos q' with e0 | e0
                  · rw [e0] at hq'; exact absurd hq' w3
                  · exact e0
                have hput : putF (c :: k :: rx) (.ref q' :: .ref q :: r1) σ = some (r1, s1 σ q k (Int32.ofNat q')) := by
                  unfold putF
                  simp only [hkn, if_true, hf, Option.bind_some, putV]
                  rw [if_pos ⟨hpos, hlt2⟩]
                  rfl
                have h1 : (Int32.ofNat q').toInt = q' := Int32.toInt_ofNat_of_lt (Nat.lt_trans hlt2 (by decide))
                refine ⟨r1, _, hput, hr2.wr hkd (Nat.le_refl k) (Nat.le_refl k), wr_glo hst w4 hG hkd (Nat.le_refl k) (Nat.le_refl k) (by rw [h1]; exact Int.natCast_nonneg _) (by rw [h1]; exact Int.le_of_lt_add_one (Int.ofNat_lt.mpr hlt2)) (fun c9 fs9 κ9 h9 h8 => ?_)⟩
                rw [hk] at h9
                cases h9
                rw [hf] at h8
                cases h8
                exact Or.inr ⟨q', hpos, hlt2, rfl, hq'⟩
            · cases h
          · cases h
        · cases h
      · cases h
    · cases h
  · cases h
theorem laA_ok {p : Nat → Bool} (hr : Rel ρ0 ρ a ls st σ) (hG : Glo TY I ms σ0 σ) (h : laA TY p a = some a') : ∃ ρ' i q r t n fs, st = .int i :: .ref q :: r ∧ knd q = some (t, n, fs) ∧ p t = true ∧ inR i n = true ∧ Rel ρ0 ρ' a' ls (.int (σ.1 q i.toNatClampNeg) :: r) σ := by
  obtain ⟨S, L, K, M⟩ := a
  unfold laA at h
  split at h
  · rename_i i r K' hK
    simp only at hK
    subst hK
    split at h
    · rename_i ht
      rw [Bool.and_eq_true] at ht
      split at h
      · rename_i t n fs hk
        split at h
        · rename_i hc
          rw [Bool.and_eq_true] at hc
          obtain ⟨vv, r0, rfl, e1, hr1⟩ := hr.pop
          obtain ⟨vr, r1, rfl, e2, hr2⟩ := hr1.pop
          obtain ⟨q, rfl⟩ := hr.isA e2 (tag_eq ht.1)
          obtain ⟨x, rfl⟩ := hr.isI e1 (tag_eq ht.2)
          have hkd := hr.kind e2
          have hkn : knd q = some (t, n, fs) := by rw [kdn_knd hkd]; exact hk
          obtain ⟨i1, i2, i3, i4⟩ := ix_in hr ht.2 hc.2 e1
          split at h
          · rename_i v hv
            cases h
            obtain ⟨e, he, hp, rfl⟩ := fdM_some hv
            unfold mA at hp
            simp only [Bool.and_eq_true] at hp
            have hok := hr.2.2.2.2.1 e he
            unfold memOK at hok
            rw [Nat.eq_of_beq_eq_true hp.1] at hok
            obtain ⟨q', j, g1, g2, g3⟩ := hok
            rw [Nat.eq_of_beq_eq_true hp.2.1, e2] at g1
            cases g1
            have := eqS_ok hr hp.2.2 g2 e1
            subst this
            exact ⟨ρ, j, q, r1, t, n, fs, rfl, hkn, hc.1, i1, hr2.push g3⟩
          · cases h
            have hb := ldRg_ok hG.1 hkd i2 i3
            have hp := hr2.pushN (v := .int (σ.1 q x.toNatClampNeg)) (okS_new hr2.1 hb.1 hb.2)
            exact ⟨_, x, q, r1, t, n, fs, rfl, hkn, hc.1, i1, memAdd hp ⟨q, x, at_app _ e2, at_app _ e1, (hr2.grow (v := .int (σ.1 q x.toNatClampNeg)) (okS_new hr2.1 hb.1 hb.2)).2⟩⟩
        · cases h
      · cases h
    · cases h
  · cases h
end AbsH
