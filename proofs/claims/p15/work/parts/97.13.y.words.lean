/-! the words are what both sides' readers want -/
def byf : Nat → Int32 := fun j => byW.getD j 0
set_option maxRecDepth 100000 in
theorem wdG_ok : ∀ j, j < 22 → wdG byf j = wdl.getD j 0 := by decide +kernel
set_option maxRecDepth 100000 in
theorem keyF_ok : ∀ j, j < 22 → keyF j = kyR.getD j 0 := by decide +kernel
set_option maxRecDepth 100000 in
theorem J5_0 (g : Nat → Int32) : J5 0 (S1 g, S2 (wdG byf) keyF) := by
  refine ⟨JT_0 g _ _, fun i hi => absurd hi (by omega), fun j hj => wdG_ok j hj, fun j hj => keyF_ok j hj, ?_⟩
  show S1 g 15 8 = S1 g 97 17
  exact (show S1 g 15 8 = -1 from rfl).trans (show S1 g 97 17 = -1 from rfl).symm
