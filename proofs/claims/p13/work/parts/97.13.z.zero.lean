/-! the start: the laws, no game, nothing kept -/
set_option maxRecDepth 100000 in
theorem J7_0 (g : Nat → Int32) : J7 0 (S1 g, S2 (wdG byf) keyF) := by
  have h9 : ∀ u, u < 4 → sc0 u = scF 4 4 (nI u) := by decide +kernel
  have h10 : ∀ c, c < 16 → so0 c = suF 4 (nI c) := by decide +kernel
  have ht : (-1 : Int32) = (if (4 : Int32) ≤ (-1 : Int32) then (-1 : Int32) else (-1 : Int32)) := by decide
  refine ⟨J5_0 g, ((4, 4, -1, 0, C0, C0), none, none, none, 0), ⟨⟨⟨by decide, by decide, by decide, by decide, by decide, by decide, Or.inl rfl⟩, Nat.zero_le _⟩, trivial, trivial, trivial, Nat.zero_le _⟩, ⟨⟨⟨rfl, rfl, rfl, rfl, rfl, h9, h10⟩, rfl, fun k hk => absurd hk (Nat.not_lt_zero _)⟩, ⟨rfl, rfl, rfl⟩, ⟨rfl, rfl, rfl⟩, ⟨rfl, rfl, rfl⟩, rfl⟩, ⟨⟨0, ⟨by decide, rfl, rfl, rfl, ht⟩, rfl, fun k hk => absurd hk (Nat.not_lt_zero _)⟩, ⟨rfl, rfl⟩, rfl, rfl, rfl⟩⟩
