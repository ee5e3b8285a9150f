/-! new T[4][m] with its rows; contents in a range -/
theorem va_D_app {A : Nat → Prop} {ws xs : va_W} {H : Heap} {D : va_G} (hD : va_D A ws) (hP : va_P D vwCl ws H) (h1 : ∀ (k : Nat) (x : Nat × va_E), xs[k]? = some x → x.1 = H.size + k) (hA : ∀ q, H.size ≤ q → A q) : va_D A (ws ++ xs) := by
  have key : ∀ (k : Nat) (x : Nat × va_E), (ws ++ xs)[k]? = some x → (ws[k]? = some x ∧ x.1 < H.size ∧ k < ws.length) ∨ (ws.length ≤ k ∧ x.1 = H.size + (k - ws.length)) := by
    intro k x hk
    by_cases hl : k < ws.length
    · rw [List.getElem?_append_left hl] at hk
      exact Or.inl ⟨hk, (hP k x hk).lt, hl⟩
    · rw [List.getElem?_append_right (by omega)] at hk
      exact Or.inr ⟨by omega, h1 _ x hk⟩
  refine ⟨fun i j x y hi hj e => ?_, fun k x hk => ?_⟩
  · rcases key i x hi with ⟨a1, a2, a3⟩ | ⟨a1, a2⟩ <;> rcases key j y hj with ⟨b1, b2, b3⟩ | ⟨b1, b2⟩
    · exact hD.1 i j x y a1 b1 e
    · omega
    · omega
    · omega
  · rcases key k x hk with ⟨a1, -, -⟩ | ⟨-, a2⟩
    · exact hD.2 k x a1
    · exact hA _ (by omega)
def rf4 (q1 q2 q3 q4 : Nat) : Nat → Option Nat := fun j => some (match j with | 0 => q1 | 1 => q2 | 2 => q3 | _ => q4)
theorem outer_eq (c : ClassId) (N h : Nat) : ∀ i, ∃ sl, Jvm.Free.Multi.outerC c N h i = ({ cls := c, slots := sl, vm := .none } : Cell)
  | 0 => ⟨_, rfl⟩
  | i + 1 => by
    obtain ⟨sl, e⟩ := outer_eq c N h i
    refine ⟨sl.setIfInBounds i (.ref (h + 1 + i)), ?_⟩
    show (Jvm.Free.Multi.outerC c N h i).setSlot i (.ref (h + 1 + i)) = _
    rw [e]
    rfl
theorem outer4 (c : ClassId) (h : Nat) : Jvm.Free.Multi.outerC c 4 h 4 = vp_cell c (4, .inr (.inr (.inr (.inr (rf4 (h + 1) (h + 2) (h + 3) (h + 4)))))) := by
  rw [vp_cell_q]
  obtain ⟨a, b, d⟩ := Jvm.Free.Multi.outerC_facts c 4 h 4
  have hs : (Jvm.Free.Multi.outerC c 4 h 4).slots = (arrV c 4 (fun j => va_rf (rf4 (h + 1) (h + 2) (h + 3) (h + 4) j))).slots := by
    apply Array.ext_getElem?
    intro j
    by_cases hj : j < 4
    · rw [Jvm.Free.Multi.outerC_slot c 4 h 4 j hj, if_pos hj]
      have h4 : j = 0 ∨ j = 1 ∨ j = 2 ∨ j = 3 := by omega
      rcases h4 with rfl | rfl | rfl | rfl <;> rfl
    · rw [Array.getElem?_eq_none (by rw [d]; omega), Array.getElem?_eq_none (by rw [arrV_size]; omega)]
  obtain ⟨sl, e⟩ := outer_eq c 4 h 4
  rw [e] at hs ⊢
  show _ = ({ cls := c, slots := (arrV c 4 (fun j => va_rf (rf4 (h + 1) (h + 2) (h + 3) (h + 4) j))).slots, vm := .none } : Cell)
  rw [← hs]
section Mna2
variable {p : Program} {l : Launch} {e : Env} {R : Room} {s : State} {m : MethodId} {args : Array Value} {below : List Frame} {meth : Method} {c : Code} {H : Heap} {locs : List Loc} {cells slots : Nat} {Q : State → Prop} {cc : ByteArray} {pc : Nat} {ls : Array Slot} {rest : List Value} {D : va_G} {A : Nat → Prop} {ws : va_W} {H0 : Heap} {tys : List (ClassId × FieldType)}
theorem z_mna2 (hexec : p.tables.exec = Jvm.exec) (hb : c.code = cc) {own : String} {index : Nat} {ty : FieldType} (hown : s.vm.findClass own = some m.cls) (hclink : (Cond.classLink own index ("[" ++ (FieldType.array ty).toString)).before args s = true) (hover : AOA ty s) (harr : (Cond.arrayClass ty).before args s = true)
    (hK : va_K D vwCl tys s) (hP : va_P D vwCl ws H) (hD : va_D A ws) (hS : va_S A H0 H locs) (hA : ∀ q, H0.size ≤ q → A q) {n k : Int32} {K' : Nat} {z : (Nat → Int32) ⊕ (Nat → Int64) ⊕ (Nat → UInt32) ⊕ (Nat → UInt64) ⊕ (Nat → Option Nat)} (hz : ∀ cA, Jvm.Free.Multi.innerC cA K' (defaultValue ty) = vp_cell cA (K', z)) (hra : ∀ cA, s.vm.findClass (FieldType.array ty).toString = some cA → va_RA s cA ty) (hn : ¬ n < 0) (hk : ¬ k < 0) (hN : n.toNatClampNeg = 4) (hM : k.toNatClampNeg = K')
    (hb2 : K' * componentBytes ty ≤ 536870912) (hb3 : K' ≤ 536870912) (hdf : fits ty (defaultValue ty) = true) (hdd : (defaultValue ty).isDefault = true) (hcells : cells + (1 + 4) ≤ R.cells) (hslots : slots + (4 + 4 * K') ≤ R.slots) (hdg : decode cc pc = .ok (.multianewarray index 2, 4))
    (kk : ∀ (q q1 q2 q3 q4 : Nat) (cA comp : ClassId) (H1 : Heap), va_K D vwCl (tys ++ [(cA, .array ty), (comp, ty)]) s → va_P D vwCl (ws ++ [(q, .inl (cA, 4, .inr (.inr (.inr (.inr (rf4 q1 q2 q3 q4)))))), (q1, .inl (comp, K', z)), (q2, .inl (comp, K', z)), (q3, .inl (comp, K', z)), (q4, .inl (comp, K', z))]) H1 → va_D A (ws ++ [(q, .inl (cA, 4, .inr (.inr (.inr (.inr (rf4 q1 q2 q3 q4)))))), (q1, .inl (comp, K', z)), (q2, .inl (comp, K', z)), (q3, .inl (comp, K', z)), (q4, .inl (comp, K', z))]) → va_S A H0 H1 locs → W p l e R s m args below meth c H1 locs (cells + 1 + 4) (slots + 4 + 4 * K') Q (F0 m (pc + 4) ls (.ref q :: rest))) : W p l e R s m args below meth c H locs cells slots Q (F0 m pc ls (.int k :: .int n :: rest)) := by
  subst hM
  intro T hT Xs
  obtain ⟨vm₁, cA, comp, -, fA, fC, hO, hI, X', step⟩ := Jvm.Stand.multianewarray2F Xs hexec hown hclink hover harr (g := F0 m pc ls (.int k :: .int n :: rest)) rfl (by rw [hb]; exact hdg) rfl hn hk (by rw [hN]; decide) hb2 hb3 hdf hdd (by rw [hN]; exact hcells) (by rw [hN]; exact hslots)
  rw [hN] at X' step
  generalize hF : Jvm.Free.Multi.fill (T.setVm vm₁) cA comp 4 k.toNatClampNeg (defaultValue ty) 4 = F at X' step
  have hTh : (T.setVm vm₁).heap = H := hT
  obtain ⟨f1, f2, -, -⟩ := Jvm.Free.Multi.fill_facts (T.setVm vm₁) cA comp 4 k.toNatClampNeg (defaultValue ty) 4
  rw [hF, hTh] at f1 f2
  have f3 : ∀ j, j < 4 → F.heap[H.size + 1 + j]? = some (vp_cell comp (k.toNatClampNeg, z)) := fun j hj => by
    have := Jvm.Free.Multi.fill_inner (T.setVm vm₁) cA comp 4 k.toNatClampNeg (defaultValue ty) 4 j hj
    rw [hF, hTh, hz] at this
    exact this
  rw [outer4] at f2
  have hold : ∀ x : Nat, x < H.size → F.heap[x]? = H[x]? := fun x hx => by
    have := Jvm.Free.Multi.fill_old (T.setVm vm₁) cA comp 4 k.toNatClampNeg (defaultValue ty) (a := x) (by rw [hTh]; exact hx) 4
    rw [hF, hTh] at this
    exact this
  have hArA : ArrOfT s cA (.array ty) := fun N z => by
    obtain ⟨⟨a1, a2⟩, -⟩ := hO 0 0 0
    exact ⟨(fun k h => by cases h), a2⟩
  have hArC : ArrOfT s comp ty := fun N z => by
    obtain ⟨⟨a1, a2⟩, -⟩ := hI 0 .null
    exact ⟨(fun k h => by cases h), a2⟩
  have b1 : va_K D vwCl (tys ++ [(cA, .array ty), (comp, ty)]) s := by
    refine ⟨hK.1, fun k9 x hx => ?_⟩
    by_cases hl : k9 < tys.length
    · rw [List.getElem?_append_left hl] at hx
      exact hK.2 k9 x hx
    · rw [List.getElem?_append_right (by omega)] at hx
      have hz2 : k9 - tys.length < 2 := (List.getElem?_eq_some_iff.mp hx).1
      have h2 : k9 - tys.length = 0 ∨ k9 - tys.length = 1 := by omega
      rcases h2 with h2 | h2 <;> rw [h2] at hx <;> cases hx
      · exact ⟨hArA, fA⟩
      · exact ⟨hArC, hra _ fC⟩
  obtain ⟨xs, hxs⟩ : ∃ xs : va_W, xs = [(H.size, .inl (cA, 4, .inr (.inr (.inr (.inr (rf4 (H.size + 1) (H.size + 2) (H.size + 3) (H.size + 4))))))), (H.size + 1, .inl (comp, k.toNatClampNeg, z)), (H.size + 2, .inl (comp, k.toNatClampNeg, z)), (H.size + 3, .inl (comp, k.toNatClampNeg, z)), (H.size + 4, .inl (comp, k.toNatClampNeg, z))] := ⟨_, rfl⟩
  have b2 : va_P D vwCl xs F.heap := by
    subst hxs
    intro k9 x hx
    have hz2 : k9 < 5 := (List.getElem?_eq_some_iff.mp hx).1
    have h5 : k9 = 0 ∨ k9 = 1 ∨ k9 = 2 ∨ k9 = 3 ∨ k9 = 4 := by omega
    rcases h5 with rfl | rfl | rfl | rfl | rfl <;> cases hx
    · exact f2
    · exact f3 0 (by omega)
    · exact f3 1 (by omega)
    · exact f3 2 (by omega)
    · exact f3 3 (by omega)
  have b3 : va_D A (ws ++ xs) := by
    subst hxs
    refine va_D_app hD hP (fun k9 x hx => ?_) (fun q hq => hA q (Nat.le_trans hS.1 hq))
    have hz2 : k9 < 5 := (List.getElem?_eq_some_iff.mp hx).1
    have h5 : k9 = 0 ∨ k9 = 1 ∨ k9 = 2 ∨ k9 = 3 ∨ k9 = 4 := by omega
    rcases h5 with rfl | rfl | rfl | rfl | rfl <;> cases hx <;> rfl
  have b4 : va_P D vwCl (ws ++ xs) F.heap := va_P.app (hP.kept (fun k9 x hx => hold x.1 ((hP k9 x hx).lt))) b2
  subst hxs
  obtain ⟨t, a1, c1⟩ := kk H.size (H.size + 1) (H.size + 2) (H.size + 3) (H.size + 4) cA comp F.heap b1 b4 b3 ⟨by rw [f1]; have := hS.1; omega, fun x h1 h2 => (hold x (Nat.lt_of_lt_of_le h1 hS.1)).trans (hS.2.1 x h1 h2), hS.2.2⟩ F rfl X'
  refine ⟨t, step t ?_, c1⟩
  have e : T.heap.size = H.size := by rw [hT]
  rw [e]
  exact a1
end Mna2
theorem inner_i (cA : ClassId) (n : Nat) : Jvm.Free.Multi.innerC cA n (defaultValue .int) = vp_cell cA (n, .inl (fun _ => 0)) := by
  rw [vp_cell_i]
  exact arrV_new _ _ _
theorem inner_l (cA : ClassId) (n : Nat) : Jvm.Free.Multi.innerC cA n (defaultValue .long) = vp_cell cA (n, .inr (.inl (fun _ => 0))) := by
  rw [vp_cell_l]
  exact arrV_new _ _ _
/-- contents of a hand's range -/
def cl (x : Int32) : Int32 := if 0 ≤ x.toInt ∧ x.toInt ≤ 65535 then x else 0
theorem cl_rg (x : Int32) : 0 ≤ (cl x).toInt ∧ (cl x).toInt ≤ 65535 := by
  unfold cl
  split
  · assumption
  · decide
theorem cl_upd {f : Nat → Int32} {i : Nat} {x : Int32} (h : 0 ≤ x.toInt ∧ x.toInt ≤ 65535) : ∃ z : Nat → Int32, (fun j => cl (z j)) = upd (fun j => cl (f j)) i x := by
  refine ⟨upd f i x, funext (fun j => ?_)⟩
  unfold upd
  by_cases hj : j = i
  · rw [if_pos hj, if_pos hj]
    unfold cl
    rw [if_pos h]
  · rw [if_neg hj, if_neg hj]
theorem cl_0 : (fun _ : Nat => (0 : Int32)) = fun j => cl ((fun _ => 0) j) := by
  have e : cl 0 = 0 := by decide
  funext j
  exact e.symm
