/-- the cells of a new object of the class that its first call may reach -/
def wX (q : Nat → Nat) (k : Nat → ClassId) (g : Nat → Nat → Int32) (gl : Nat → Nat → Int64) : va_W :=
  [((q 0), .inr (11, [.ref (q 1), .int 0, .ref (q 2), .ref (q 30), .ref (q 6), .ref (q 11), .ref (q 15), .ref (q 16), .ref (q 19), .ref (q 31), .ref (q 21), .ref (q 22), .ref (q 24), .ref (q 25)])),
   ((q 1), .inl ((k 1), 2000, .inl (g 1))),
   ((q 2), .inr (5, [.int 4, .int 4, .int (-1), .int 0, .ref (q 32), .ref (q 33), .ref (q 34), .ref (q 35), .ref (q 36), .int 0, .int 16, .int 4, .ref (q 3), .ref (q 4), .ref (q 5), .int 1820])),
   ((q 3), .inl ((k 3), 4, .inl (g 3))),
   ((q 4), .inl ((k 4), 16, .inl (g 4))),
   ((q 5), .inl ((k 5), 1820, .inl (g 5))),
   ((q 6), .inr (8, [.ref (q 7), .ref (q 2), .ref (q 37), .int 0, .int 0, .int 0, .int 0, .int 0, .int (-1), .int 0, .int 0])),
   ((q 7), .inr (9, [.ref (q 8), .ref (q 9), .ref (q 10), .ref (q 38), .int 0])),
   ((q 8), .inl ((k 8), 402, .inl (g 8))),
   ((q 9), .inl ((k 9), 402, .inl (g 9))),
   ((q 10), .inl ((k 10), 402, .inr (.inl (gl 10)))),
   ((q 11), .inr (3, [.ref (q 2), .ref (q 30), .int 0, .ref (q 12), .ref (q 13), .int 0, .int (-2), .int 0, .ref (q 14), .ref (q 50), .ref (q 51), .ref (q 52), .ref (q 53), .ref (q 54), .ref (q 55), .ref (q 56), .ref (q 57), .int 0])),
   ((q 12), .inl ((k 12), 4, .inl (g 12))),
   ((q 13), .inl ((k 13), 4, .inl (g 13))),
   ((q 14), .inl ((k 14), 16, .inl (g 14))),
   ((q 15), .inr (3, [.ref (q 2), .ref (q 30), .int 0, .ref (q 60), .ref (q 61), .int 0, .int (-2), .int 0, .ref (q 62), .ref (q 63), .ref (q 64), .ref (q 65), .ref (q 66), .ref (q 67), .ref (q 68), .ref (q 69), .ref (q 70), .int 0])),
   ((q 16), .inl ((k 16), 2, .inr (.inr (.inr (.inr (va_up (va_up (fun _ => none) 0 (some (q 17))) 1 (some (q 18)))))))),
   ((q 17), .inr (3, [.ref (q 2), .ref (q 30), .int 0, .ref (q 72), .ref (q 73), .int 0, .int (-2), .int 0, .ref (q 74), .ref (q 75), .ref (q 76), .ref (q 77), .ref (q 78), .ref (q 79), .ref (q 80), .ref (q 81), .ref (q 82), .int 0])),
   ((q 18), .inr (3, [.ref (q 2), .ref (q 30), .int 0, .ref (q 84), .ref (q 85), .int 0, .int (-2), .int 0, .ref (q 86), .ref (q 87), .ref (q 88), .ref (q 89), .ref (q 90), .ref (q 91), .ref (q 92), .ref (q 93), .ref (q 94), .int 0])),
   ((q 19), .inr (6, [.ref (q 2), .ref (q 3), .ref (q 4), .ref (q 39), .int 0, .int 0, .int 0, .int 0, .ref (q 40), .int 0, .int 1, .ref (q 20), .ref (q 41), .int (-1)])),
   ((q 20), .inl ((k 20), 4, .inl (g 20))),
   ((q 21), .inr (10, [.ref (q 31), .ref (q 19), .ref (q 42), .int 0, .null, .int 0, .int 0])),
   ((q 22), .inr (2, [.ref (q 15), .ref (q 21), .ref (q 23)])),
   ((q 23), .inl ((k 23), 1024, .inl (g 23))),
   ((q 24), .inr (0, [.ref (q 43), .ref (q 44), .int 0])),
   ((q 25), .inr (7, [.ref (q 2), .ref (q 30)]))]
def tyX (k : Nat → ClassId) : List (ClassId × FieldType) := [(k 1, .byte), (k 3, .int), (k 4, .int), (k 5, .int), (k 8, .int), (k 9, .int), (k 10, .long), (k 12, .int), (k 13, .int), (k 14, .int), (k 16, .object "SignalTable$Game"), (k 20, .int), (k 23, .int)]
/-- the same of the reference -/
def wM (q : Nat → Nat) (k : Nat → ClassId) (g : Nat → Nat → Int32) (gl : Nat → Nat → Int64) : va_W :=
  [((q 0), .inr (12, [.int 0, .ref (q 1), .int 0, .ref (q 20), .int 0, .ref (q 2), .ref (q 3), .ref (q 4), .ref (q 5), .ref (q 21), .int 0, .int 0, .int 0, .int 0, .int 0, .int 0, .int 0, .int (-1), .int 0, .int 0, .int 0, .ref (q 22), .ref (q 6), .ref (q 7), .ref (q 8), .ref (q 9), .ref (q 23), .ref (q 24), .ref (q 25), .ref (q 26), .int 0, .ref (q 27), .ref (q 28), .ref (q 29), .ref (q 30), .ref (q 31), .ref (q 32), .int 0, .ref (q 33), .ref (q 34), .ref (q 35), .int 0, .ref (q 13), .ref (q 36), .int 0, .int 0, .ref (q 10), .int 0, .int 0, .ref (q 37), .ref (q 38), .ref (q 11), .ref (q 39), .int 0, .int 0, .int 0, .ref (q 40), .ref (q 41), .ref (q 42), .int 0, .int 0, .int 0, .ref (q 43), .ref (q 44), .ref (q 45), .ref (q 46), .ref (q 47), .ref (q 48), .ref (q 49), .int 0, .ref (q 50), .int 0, .ref (q 51), .ref (q 52), .ref (q 53), .ref (q 54), .ref (q 55), .ref (q 56), .int 0, .int 0, .int 0, .ref (q 57), .int 0, .int 0, .ref (q 58), .ref (q 59), .int 0, .ref (q 60), .ref (q 61), .ref (q 12), .ref (q 62), .ref (q 63), .ref (q 64), .ref (q 65), .ref (q 66)])),
   ((q 1), .inl ((k 1), 2000, .inl (g 1))),
   ((q 2), .inl ((k 2), 403, .inl (g 2))),
   ((q 3), .inl ((k 3), 403, .inl (g 3))),
   ((q 4), .inl ((k 4), 403, .inl (g 4))),
   ((q 5), .inl ((k 5), 403, .inr (.inl (gl 5)))),
   ((q 6), .inl ((k 6), 2, .inl (upd (fun _ => 0) 0 4))),
   ((q 7), .inl ((k 7), 2, .inl (upd (fun _ => 0) 0 4))),
   ((q 8), .inl ((k 8), 2, .inl (upd (fun _ => 0) 0 (-1)))),
   ((q 9), .inl ((k 9), 2, .inl (fun _ => 0))),
   ((q 10), .inl ((k 10), 4, .inl (g 10))),
   ((q 11), .inl ((k 11), 16, .inl (g 11))),
   ((q 12), .inl ((k 12), 2, .inl (fun _ => 0))),
   ((q 13), .inl ((k 13), 14, .inl (g 13)))]
def tyM (k : Nat → ClassId) : List (ClassId × FieldType) := [(k 1, .byte), (k 2, .int), (k 3, .int), (k 4, .int), (k 5, .long), (k 6, .int), (k 7, .int), (k 8, .int), (k 9, .int), (k 10, .int), (k 11, .int), (k 12, .boolean), (k 13, .int)]
def sp_count (x : Int32) : Int32 := if x = 0 ∨ x = 1 ∨ x = 2 then 4 else if x = 3 ∨ x = 5 then -2 else if x = 4 ∨ x = 6 ∨ x = 7 ∨ x = 8 then 0 else -1
theorem z_if0 {P : Prop} {i : Decidable P} (h : (if P then (1 : Int32) else 0) = 0) : ¬ P := fun q => by rw [if_pos q] at h; exact absurd h (by decide)
theorem z_ifn {P : Prop} {i : Decidable P} (h : ¬ (if P then (1 : Int32) else 0) = 0) : P := by
  by_cases q : P
  · exact q
  · rw [if_neg q] at h; exact absurd rfl h
theorem ti_m2 : ((-2) : Int32).toInt = -2 := by decide
theorem ti_m1 : ((-1) : Int32).toInt = -1 := by decide
theorem ti_0 : (0 : Int32).toInt = 0 := by decide
theorem ti_1 : (1 : Int32).toInt = 1 := by decide
theorem ti_2 : (2 : Int32).toInt = 2 := by decide
theorem ti_3 : (3 : Int32).toInt = 3 := by decide
theorem ti_4 : (4 : Int32).toInt = 4 := by decide
theorem ti_5 : (5 : Int32).toInt = 5 := by decide
theorem ti_6 : (6 : Int32).toInt = 6 := by decide
theorem ti_7 : (7 : Int32).toInt = 7 := by decide
theorem ti_8 : (8 : Int32).toInt = 8 := by decide
theorem ti_10 : (10 : Int32).toInt = 10 := by decide
theorem ti_20 : (20 : Int32).toInt = 20 := by decide
theorem z_in {i : Int32} {n : Nat} (h : ¬ (i < 0 ∨ n ≤ i.toNatClampNeg)) : vp_in i n := h
