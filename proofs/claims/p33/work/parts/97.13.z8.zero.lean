/-! the start, with the customs' programs: none -/
set_option maxRecDepth 100000 in
theorem J8_0 (g : Nat → Int32) : J8 0 (S1 g, S2 (wdG byf) keyF) := by
  obtain ⟨h5, A, hv, hC, hR⟩ := J7_0 g
  have e33 : (S1 g, S2 (wdG byf) keyF).1 3 3 = (0 : Int32) := rfl
  have e22 : (S1 g, S2 (wdG byf) keyF).1 22 2 = (0 : Int32) := rfl
  have h6 := hv.1.2
  have hn : 0 = A.1.2.2.2.1 := (nI_eq (a := 0) (b := A.1.2.2.2.1) (by decide) (by omega)).mp (e33.symm.trans hC.1.2.1)
  refine ⟨h5, (A, fun _ => ([], [])), ⟨hv, h6, fun k hk => absurd hk (by show ¬ k < A.1.2.2.2.1; omega)⟩, ⟨hC, fun k hk => absurd hk (by show ¬ k < A.1.2.2.2.1; omega), ?_⟩, hR, fun lv _ _ k hk => absurd hk (by show ¬ k < A.1.2.2.2.1; omega)⟩
  show adG A.1 (fun _ => ([], [])) A.2.1 _
  cases hg : A.2.1 with
  | none => trivial
  | some G =>
    have h := hC.2.1
    rw [hg] at h
    exact absurd (e22.symm.trans h.1) (by decide)
