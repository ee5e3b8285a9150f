/-! the first world, as the pure machine has it -/
def wX (q : Nat → Nat) (k : Nat → ClassId) (g : Nat → Nat → Int32) (gl : Nat → Nat → Int64) : va_W :=
  [((q 0), .inr (11, [.ref (q 1), .int 0, .ref (q 3), .ref (q 12), .ref (q 15), .ref (q 22), .ref (q 34), .ref (q 2), .ref (q 70), .ref (q 75), .ref (q 89), .ref (q 91), .ref (q 93), .ref (q 96)])),
   ((q 1), .inl ((k 1), 2000, .inl (fun _ => 0))),
   ((q 2), .inl ((k 2), 2, .inr (.inr (.inr (.inr (va_up (va_up (fun _ => none) 0 (some (q 46))) 1 (some (q 58)))))))),
   ((q 3), .inr (5, [.int 4, .int 4, .int (-1), .int 0, .ref (q 4), .ref (q 5), .ref (q 6), .ref (q 7), .ref (q 8), .int 0, .int 16, .int 4, .ref (q 9), .ref (q 10), .ref (q 11), .int 1820])),
   ((q 4), .inl ((k 4), 6, .inl (fun _ => 0))),
   ((q 5), .inl ((k 5), 6, .inl (fun _ => 0))),
   ((q 6), .inl ((k 6), 12, .inl (fun _ => 0))),
   ((q 7), .inl ((k 7), 12, .inl (fun _ => 0))),
   ((q 8), .inl ((k 8), 400, .inl (fun _ => 0))),
   ((q 9), .inl ((k 9), 4, .inl sc0)),
   ((q 10), .inl ((k 10), 16, .inl so0)),
   ((q 11), .inl ((k 11), 1820, .inl (fun j => cl ((g 11) j)))),
   ((q 12), .inr (4, [.ref (q 3), .ref (q 13), .ref (q 14)])),
   ((q 13), .inl ((k 13), 14, .inl (fun _ => 0))),
   ((q 14), .inl ((k 14), 64, .inl (fun _ => 0))),
   ((q 15), .inr (8, [.ref (q 17), .ref (q 3), .ref (q 16), .int 0, .int 0, .int 0, .int 0, .int 0, .int (-1), .int 0, .int 0])),
   ((q 16), .inl ((k 16), 6, .inr (.inl (fun _ => 0)))),
   ((q 17), .inr (9, [.ref (q 18), .ref (q 19), .ref (q 20), .ref (q 21), .int 0])),
   ((q 18), .inl ((k 18), 402, .inl (fun _ => 0))),
   ((q 19), .inl ((k 19), 402, .inl (fun _ => 0))),
   ((q 20), .inl ((k 20), 402, .inr (.inl (fun _ => 0)))),
   ((q 21), .inl ((k 21), 22, .inr (.inl (gl 21)))),
   ((q 22), .inr (3, [.ref (q 3), .ref (q 12), .int 0, .ref (q 23), .ref (q 24), .int 0, .int (-2), .int 0, .ref (q 25), .ref (q 26), .ref (q 27), .ref (q 28), .ref (q 29), .ref (q 30), .ref (q 31), .ref (q 32), .ref (q 33), .int 0])),
   ((q 23), .inl ((k 23), 4, .inl (fun _ => 0))),
   ((q 24), .inl ((k 24), 4, .inl (fun _ => 0))),
   ((q 25), .inl ((k 25), 16, .inl (fun _ => 0))),
   ((q 26), .inl ((k 26), 16, .inl (fun _ => 0))),
   ((q 27), .inl ((k 27), 16, .inl (fun _ => 0))),
   ((q 28), .inl ((k 28), 16, .inl (fun _ => 0))),
   ((q 29), .inl ((k 29), 16, .inl (fun _ => 0))),
   ((q 30), .inl ((k 30), 16, .inl (fun _ => 0))),
   ((q 31), .inl ((k 31), 16, .inl (fun _ => 0))),
   ((q 32), .inl ((k 32), 16, .inl (fun _ => 0))),
   ((q 33), .inl ((k 33), 4, .inl (fun _ => 0))),
   ((q 34), .inr (3, [.ref (q 3), .ref (q 12), .int 0, .ref (q 35), .ref (q 36), .int 0, .int (-2), .int 0, .ref (q 37), .ref (q 38), .ref (q 39), .ref (q 40), .ref (q 41), .ref (q 42), .ref (q 43), .ref (q 44), .ref (q 45), .int 0])),
   ((q 35), .inl ((k 35), 4, .inl (fun _ => 0))),
   ((q 36), .inl ((k 36), 4, .inl (fun _ => 0))),
   ((q 37), .inl ((k 37), 16, .inl (fun _ => 0))),
   ((q 38), .inl ((k 38), 16, .inl (fun _ => 0))),
   ((q 39), .inl ((k 39), 16, .inl (fun _ => 0))),
   ((q 40), .inl ((k 40), 16, .inl (fun _ => 0))),
   ((q 41), .inl ((k 41), 16, .inl (fun _ => 0))),
   ((q 42), .inl ((k 42), 16, .inl (fun _ => 0))),
   ((q 43), .inl ((k 43), 16, .inl (fun _ => 0))),
   ((q 44), .inl ((k 44), 16, .inl (fun _ => 0))),
   ((q 45), .inl ((k 45), 4, .inl (fun _ => 0))),
   ((q 46), .inr (3, [.ref (q 3), .ref (q 12), .int 0, .ref (q 47), .ref (q 48), .int 0, .int (-2), .int 0, .ref (q 49), .ref (q 50), .ref (q 51), .ref (q 52), .ref (q 53), .ref (q 54), .ref (q 55), .ref (q 56), .ref (q 57), .int 0])),
   ((q 47), .inl ((k 47), 4, .inl (fun _ => 0))),
   ((q 48), .inl ((k 48), 4, .inl (fun _ => 0))),
   ((q 49), .inl ((k 49), 16, .inl (fun _ => 0))),
   ((q 50), .inl ((k 50), 16, .inl (fun _ => 0))),
   ((q 51), .inl ((k 51), 16, .inl (fun _ => 0))),
   ((q 52), .inl ((k 52), 16, .inl (fun _ => 0))),
   ((q 53), .inl ((k 53), 16, .inl (fun _ => 0))),
   ((q 54), .inl ((k 54), 16, .inl (fun _ => 0))),
   ((q 55), .inl ((k 55), 16, .inl (fun _ => 0))),
   ((q 56), .inl ((k 56), 16, .inl (fun _ => 0))),
   ((q 57), .inl ((k 57), 4, .inl (fun _ => 0))),
   ((q 58), .inr (3, [.ref (q 3), .ref (q 12), .int 0, .ref (q 59), .ref (q 60), .int 0, .int (-2), .int 0, .ref (q 61), .ref (q 62), .ref (q 63), .ref (q 64), .ref (q 65), .ref (q 66), .ref (q 67), .ref (q 68), .ref (q 69), .int 0])),
   ((q 59), .inl ((k 59), 4, .inl (fun _ => 0))),
   ((q 60), .inl ((k 60), 4, .inl (fun _ => 0))),
   ((q 61), .inl ((k 61), 16, .inl (fun _ => 0))),
   ((q 62), .inl ((k 62), 16, .inl (fun _ => 0))),
   ((q 63), .inl ((k 63), 16, .inl (fun _ => 0))),
   ((q 64), .inl ((k 64), 16, .inl (fun _ => 0))),
   ((q 65), .inl ((k 65), 16, .inl (fun _ => 0))),
   ((q 66), .inl ((k 66), 16, .inl (fun _ => 0))),
   ((q 67), .inl ((k 67), 16, .inl (fun _ => 0))),
   ((q 68), .inl ((k 68), 16, .inl (fun _ => 0))),
   ((q 69), .inl ((k 69), 4, .inl (fun _ => 0))),
   ((q 70), .inr (6, [.ref (q 3), .ref (q 9), .ref (q 10), .ref (q 71), .int 0, .int 0, .int 0, .int 0, .ref (q 72), .int 0, .int 1, .ref (q 73), .ref (q 74), .int (-1)])),
   ((q 71), .inl ((k 71), 4, .inl (fun _ => 0))),
   ((q 72), .inl ((k 72), 2048, .inl (fun _ => 0))),
   ((q 73), .inl ((k 73), 4, .inl (fun _ => 0))),
   ((q 74), .inl ((k 74), 16, .inl (fun _ => 0))),
   ((q 75), .inr (1, [.ref (q 3), .ref (q 12), .ref (q 76), .ref (q 77), .ref (q 78), .ref (q 79), .ref (q 80), .int 0, .int 0, .int 0, .int 0, .int 0, .int 0])),
   ((q 76), .inl ((k 76), 4, .inr (.inr (.inr (.inr (rf4 (q 81) (q 82) (q 83) (q 84))))))),
   ((q 77), .inl ((k 77), 4, .inl (fun _ => 0))),
   ((q 78), .inl ((k 78), 4, .inr (.inr (.inr (.inr (rf4 (q 85) (q 86) (q 87) (q 88))))))),
   ((q 79), .inl ((k 79), 4, .inl (fun _ => 0))),
   ((q 80), .inl ((k 80), 4, .inl (fun _ => 0))),
   ((q 81), .inl ((k 81), 495, .inl (fun _ => 0))),
   ((q 82), .inl ((k 82), 495, .inl (fun _ => 0))),
   ((q 83), .inl ((k 83), 495, .inl (fun _ => 0))),
   ((q 84), .inl ((k 84), 495, .inl (fun _ => 0))),
   ((q 85), .inl ((k 85), 1024, .inr (.inl (fun _ => 0)))),
   ((q 86), .inl ((k 86), 1024, .inr (.inl (fun _ => 0)))),
   ((q 87), .inl ((k 87), 1024, .inr (.inl (fun _ => 0)))),
   ((q 88), .inl ((k 88), 1024, .inr (.inl (fun _ => 0)))),
   ((q 89), .inr (10, [.ref (q 75), .ref (q 70), .ref (q 90), .int 0, .null, .int 0, .int 0])),
   ((q 90), .inl ((k 90), 80, .inl (fun _ => 0))),
   ((q 91), .inr (2, [.ref (q 34), .ref (q 89), .ref (q 92)])),
   ((q 92), .inl ((k 92), 1024, .inl (fun _ => 0))),
   ((q 93), .inr (0, [.ref (q 94), .ref (q 95), .int 0])),
   ((q 94), .inl ((k 94), 48, .inl (fun _ => 0))),
   ((q 95), .inl ((k 95), 48, .inl (fun _ => 0))),
   ((q 96), .inr (7, [.ref (q 3), .ref (q 12)]))]
def tyX (k : Nat → ClassId) : List (ClassId × FieldType) := [(k 1, .byte), (k 2, .object "SignalTable$Game"), (k 4, .int), (k 5, .int), (k 6, .int), (k 7, .int), (k 8, .int), (k 9, .int), (k 10, .int), (k 11, .int), (k 13, .int), (k 14, .int), (k 16, .long), (k 18, .int), (k 19, .int), (k 20, .long), (k 21, .long), (k 23, .int), (k 24, .int), (k 25, .int), (k 26, .int), (k 27, .int), (k 28, .int), (k 29, .int), (k 30, .int), (k 31, .int), (k 32, .int), (k 33, .int), (k 35, .int), (k 36, .int), (k 37, .int), (k 38, .int), (k 39, .int), (k 40, .int), (k 41, .int), (k 42, .int), (k 43, .int), (k 44, .int), (k 45, .int), (k 47, .int), (k 48, .int), (k 49, .int), (k 50, .int), (k 51, .int), (k 52, .int), (k 53, .int), (k 54, .int), (k 55, .int), (k 56, .int), (k 57, .int), (k 59, .int), (k 60, .int), (k 61, .int), (k 62, .int), (k 63, .int), (k 64, .int), (k 65, .int), (k 66, .int), (k 67, .int), (k 68, .int), (k 69, .int), (k 71, .int), (k 72, .int), (k 73, .int), (k 74, .int), (k 76, .array .int), (k 77, .int), (k 78, .array .long), (k 79, .int), (k 80, .int), (k 81, .int), (k 82, .int), (k 83, .int), (k 84, .int), (k 85, .long), (k 86, .long), (k 87, .long), (k 88, .long), (k 90, .int), (k 92, .int), (k 94, .int), (k 95, .int)]
def wM (q : Nat → Nat) (k : Nat → ClassId) (g : Nat → Nat → Int32) (gl : Nat → Nat → Int64) : va_W :=
  [((q 0), .inr (12, [.int 0, .ref (q 1), .int 0, .ref (q 2), .int 0, .ref (q 3), .ref (q 4), .ref (q 5), .ref (q 6), .ref (q 7), .int 0, .int 0, .int 0, .int 0, .int 0, .int 0, .int 0, .int (-1), .int 0, .int 0, .int 0, .ref (q 8), .ref (q 9), .ref (q 10), .ref (q 11), .ref (q 12), .ref (q 13), .ref (q 14), .ref (q 15), .ref (q 16), .int 0, .ref (q 17), .ref (q 18), .ref (q 19), .ref (q 20), .ref (q 21), .ref (q 22), .int 0, .ref (q 23), .ref (q 24), .ref (q 25), .int 0, .ref (q 26), .ref (q 27), .int 0, .int 0, .ref (q 28), .int 0, .int 0, .ref (q 29), .ref (q 30), .ref (q 31), .ref (q 32), .int 0, .int 0, .int 0, .ref (q 33), .ref (q 34), .ref (q 35), .int 0, .int 0, .int 0, .ref (q 36), .ref (q 37), .ref (q 38), .ref (q 39), .ref (q 40), .ref (q 41), .ref (q 42), .int 0, .ref (q 43), .int 0, .ref (q 44), .ref (q 45), .ref (q 46), .ref (q 47), .ref (q 48), .ref (q 49), .int 0, .int 0, .int 0, .ref (q 50), .int 0, .int 0, .ref (q 51), .ref (q 52), .int 0, .ref (q 53), .ref (q 54), .ref (q 55), .ref (q 56), .ref (q 57), .ref (q 58), .ref (q 59), .ref (q 60)])),
   ((q 1), .inl ((k 1), 2000, .inl (fun _ => 0))),
   ((q 2), .inl ((k 2), 2000, .inl (fun _ => 0))),
   ((q 3), .inl ((k 3), 403, .inl (fun _ => 0))),
   ((q 4), .inl ((k 4), 403, .inl (fun _ => 0))),
   ((q 5), .inl ((k 5), 403, .inl (fun _ => 0))),
   ((q 6), .inl ((k 6), 403, .inr (.inl (fun _ => 0)))),
   ((q 7), .inl ((k 7), 22, .inr (.inl (gl 7)))),
   ((q 8), .inl ((k 8), 6, .inr (.inl (fun _ => 0)))),
   ((q 9), .inl ((k 9), 2, .inl (upd (fun _ => 0) 0 4))),
   ((q 10), .inl ((k 10), 2, .inl (upd (fun _ => 0) 0 4))),
   ((q 11), .inl ((k 11), 2, .inl (upd (fun _ => 0) 0 (-1)))),
   ((q 12), .inl ((k 12), 2, .inl (fun _ => 0))),
   ((q 13), .inl ((k 13), 12, .inl (fun _ => 0))),
   ((q 14), .inl ((k 14), 12, .inl (fun _ => 0))),
   ((q 15), .inl ((k 15), 24, .inl (fun _ => 0))),
   ((q 16), .inl ((k 16), 24, .inl (fun _ => 0))),
   ((q 17), .inl ((k 17), 300, .inl (fun _ => 0))),
   ((q 18), .inl ((k 18), 300, .inl (fun _ => 0))),
   ((q 19), .inl ((k 19), 300, .inl (fun _ => 0))),
   ((q 20), .inl ((k 20), 300, .inl (fun _ => 0))),
   ((q 21), .inl ((k 21), 300, .inl (fun _ => 0))),
   ((q 22), .inl ((k 22), 300, .inl (fun _ => 0))),
   ((q 23), .inl ((k 23), 840, .inl (fun _ => 0))),
   ((q 24), .inl ((k 24), 840, .inl (fun _ => 0))),
   ((q 25), .inl ((k 25), 64, .inl (fun _ => 0))),
   ((q 26), .inl ((k 26), 14, .inl (fun _ => 0))),
   ((q 27), .inl ((k 27), 400, .inl (fun _ => 0))),
   ((q 28), .inl ((k 28), 4, .inl (fun _ => 0))),
   ((q 29), .inl ((k 29), 16, .inl (fun _ => 0))),
   ((q 30), .inl ((k 30), 16, .inl (fun _ => 0))),
   ((q 31), .inl ((k 31), 16, .inl (fun _ => 0))),
   ((q 32), .inl ((k 32), 4, .inl (fun _ => 0))),
   ((q 33), .inl ((k 33), 3, .inl (fun _ => 0))),
   ((q 34), .inl ((k 34), 3, .inl (fun _ => 0))),
   ((q 35), .inl ((k 35), 3, .inl (fun _ => 0))),
   ((q 36), .inl ((k 36), 16, .inl (fun _ => 0))),
   ((q 37), .inl ((k 37), 4, .inl (fun _ => 0))),
   ((q 38), .inl ((k 38), 65536, .inl (fun _ => 0))),
   ((q 39), .inl ((k 39), 262144, .inl (fun _ => 0))),
   ((q 40), .inl ((k 40), 4, .inl (fun _ => 0))),
   ((q 41), .inl ((k 41), 16, .inl (fun _ => 0))),
   ((q 42), .inl ((k 42), 4, .inl (fun _ => 0))),
   ((q 43), .inl ((k 43), 4, .inl (fun _ => 0))),
   ((q 44), .inl ((k 44), 4, .inl (fun _ => 0))),
   ((q 45), .inl ((k 45), 4, .inl (fun _ => 0))),
   ((q 46), .inl ((k 46), 4, .inl (fun _ => 0))),
   ((q 47), .inl ((k 47), 16, .inr (.inl (fun _ => 0)))),
   ((q 48), .inl ((k 48), 16, .inl (fun _ => 0))),
   ((q 49), .inl ((k 49), 80, .inl (fun _ => 0))),
   ((q 50), .inl ((k 50), 4, .inl (fun _ => 0))),
   ((q 51), .inl ((k 51), 16, .inl (fun _ => 0))),
   ((q 52), .inl ((k 52), 16, .inl (fun _ => 0))),
   ((q 53), .inl ((k 53), 48, .inl (fun _ => 0))),
   ((q 54), .inl ((k 54), 48, .inl (fun _ => 0))),
   ((q 55), .inl ((k 55), 2, .inl (fun _ => 0))),
   ((q 56), .inl ((k 56), 8, .inl (fun _ => 0))),
   ((q 57), .inl ((k 57), 2, .inl (fun _ => 0))),
   ((q 58), .inl ((k 58), 2, .inl (fun _ => 0))),
   ((q 59), .inl ((k 59), 32, .inl (fun _ => 0))),
   ((q 60), .inl ((k 60), 32, .inl (fun _ => 0)))]
def tyM (k : Nat → ClassId) : List (ClassId × FieldType) := [(k 1, .byte), (k 2, .byte), (k 3, .int), (k 4, .int), (k 5, .int), (k 6, .long), (k 7, .long), (k 8, .long), (k 9, .int), (k 10, .int), (k 11, .int), (k 12, .int), (k 13, .int), (k 14, .int), (k 15, .int), (k 16, .int), (k 17, .int), (k 18, .boolean), (k 19, .boolean), (k 20, .int), (k 21, .int), (k 22, .int), (k 23, .int), (k 24, .int), (k 25, .int), (k 26, .int), (k 27, .int), (k 28, .int), (k 29, .int), (k 30, .int), (k 31, .int), (k 32, .int), (k 33, .int), (k 34, .int), (k 35, .int), (k 36, .int), (k 37, .int), (k 38, .int), (k 39, .byte), (k 40, .int), (k 41, .int), (k 42, .int), (k 43, .int), (k 44, .int), (k 45, .int), (k 46, .int), (k 47, .long), (k 48, .int), (k 49, .int), (k 50, .int), (k 51, .int), (k 52, .int), (k 53, .int), (k 54, .int), (k 55, .boolean), (k 56, .int), (k 57, .int), (k 58, .int), (k 59, .int), (k 60, .int)]
def S1 (g : Nat → Int32) : Nat → Nat → Int32 := fun q =>
  bif Nat.beq q 3 then (fun k => bif Nat.beq k 0 then 4 else bif Nat.beq k 1 then 4 else bif Nat.beq k 2 then (-1) else bif Nat.beq k 10 then 16 else bif Nat.beq k 11 then 4 else bif Nat.beq k 15 then 1820 else 0) else
  bif Nat.beq q 9 then sc0 else
  bif Nat.beq q 10 then so0 else
  bif Nat.beq q 11 then (fun j => cl (g j)) else
  bif Nat.beq q 15 then (fun k => bif Nat.beq k 8 then (-1) else 0) else
  bif Nat.beq q 22 then (fun k => bif Nat.beq k 6 then (-2) else 0) else
  bif Nat.beq q 34 then (fun k => bif Nat.beq k 6 then (-2) else 0) else
  bif Nat.beq q 46 then (fun k => bif Nat.beq k 6 then (-2) else 0) else
  bif Nat.beq q 58 then (fun k => bif Nat.beq k 6 then (-2) else 0) else
  bif Nat.beq q 70 then (fun k => bif Nat.beq k 10 then 1 else bif Nat.beq k 13 then (-1) else 0) else
  bif Nat.beq q 97 then (fun k => bif Nat.beq k 17 then (-1) else 0) else
  bif Nat.beq q 106 then (upd (fun _ => 0) 0 4) else
  bif Nat.beq q 107 then (upd (fun _ => 0) 0 4) else
  bif Nat.beq q 108 then (upd (fun _ => 0) 0 (-1)) else
  fun _ => 0
def S2 (g h : Nat → Int64) : Nat → Nat → Int64 := fun q => bif Nat.beq q 21 then g else bif Nat.beq q 104 then h else fun _ => 0
def SP1 : List Nat := [3, 9, 10, 11, 15, 22, 34, 46, 58, 70, 97, 106, 107, 108]
def chkS (q : Nat) : Bool := match kdn q with
  | some κ => (TYP.getD κ []).all (fun s => (List.range (s.2.1 + 1)).all (fun k => Nat.blt k s.1 || (decide (s.2.2.1 ≤ (S1 (fun _ => 0) q k).toInt) && decide ((S1 (fun _ => 0) q k).toInt ≤ s.2.2.2))))
  | none => true
def chkZ (q : Nat) : Bool := match kdn q with
  | some κ => (TYP.getD κ []).all (fun s => decide (s.2.2.1 ≤ 0) && decide (0 ≤ s.2.2.2))
  | none => true
set_option maxRecDepth 100000 in
theorem chkS_ok : (SP1.filter (fun q => !(Nat.beq q 11))).all chkS = true := by decide +kernel
set_option maxRecDepth 100000 in
theorem chkZ_ok : ((List.range 158).filter (fun q => !(SP1.contains q))).all chkZ = true := by decide +kernel
set_option maxRecDepth 100000 in
theorem SP1_off (g : Nat → Int32) (q : Nat) (h : ¬ q ∈ SP1) : S1 g q = fun _ => 0 := by
  unfold SP1 at h
  simp only [List.mem_cons, List.not_mem_nil, or_false, not_or] at h
  unfold S1
  simp only [Nat.beq_eq, h, cond_false, Bool.cond_eq_ite, Bool.false_eq_true, if_false]
theorem S1_g (g : Nat → Int32) (q : Nat) (h : ¬ q = 11) : S1 g q = S1 (fun _ => 0) q := by
  unfold S1
  have e : Nat.beq q 11 = false := by
    cases hb : Nat.beq q 11 with
    | false => rfl
    | true => exact absurd (Nat.eq_of_beq_eq_true hb) h
  rw [e]
  rfl
theorem kdn_lt {q κ : Nat} (h : kdn q = some κ) : q < 158 := by
  unfold kdn at h
  cases hq : LAY[q]? with
  | none => rw [hq] at h; cases h
  | some c => exact (List.getElem?_eq_some_iff.mp hq).1
set_option maxRecDepth 100000 in
theorem nul_10 : (List.range 116).all (fun κ => match KND[κ]? with
  | some (0, _, fs) => (List.range fs.length).all (fun k => match fs[k]? with
    | some (3, _) => Nat.beq κ 10
    | _ => true)
  | _ => true) = true := by decide +kernel
theorem typed_0 (g : Nat → Int32) (h1 h2 : Nat → Int64) : typed TYP (S1 g, S2 h1 h2) := by
  refine ⟨fun q κ hq s hs k k1 k2 => ?_, fun q κ c fs k κ' hq hK hf => ?_⟩
  · show s.2.2.1 ≤ (S1 g q k).toInt ∧ (S1 g q k).toInt ≤ s.2.2.2
    by_cases h11 : q = 11
    · subst h11
      have e : kdn 11 = some 30 := rfl
      rw [e] at hq; cases hq
      have e2 : TYP.getD 30 [] = [(0, 1819, 0, 65535)] := rfl
      rw [e2] at hs
      rcases List.mem_cons.mp hs with rfl | hs
      · exact cl_rg (g k)
      · cases hs
    · rw [S1_g g q h11]
      by_cases hsp : q ∈ SP1
      · have hc := List.all_eq_true.mp chkS_ok q (List.mem_filter.mpr ⟨hsp, by
          cases hb : Nat.beq q 11 with
          | false => rfl
          | true => exact absurd (Nat.eq_of_beq_eq_true hb) h11⟩)
        unfold chkS at hc
        rw [hq] at hc
        have hc := List.all_eq_true.mp (List.all_eq_true.mp hc s hs) k (List.mem_range.mpr (by omega))
        simp only [Bool.or_eq_true, Bool.and_eq_true, decide_eq_true_eq] at hc
        rcases hc with hc | hc
        · have := Nat.blt_eq.mp hc
          omega
        · exact hc
      · have hc := List.all_eq_true.mp chkZ_ok q (List.mem_filter.mpr ⟨List.mem_range.mpr (kdn_lt hq), by simpa using hsp⟩)
        unfold chkZ at hc
        rw [hq] at hc
        have hc := List.all_eq_true.mp hc s hs
        simp only [Bool.and_eq_true, decide_eq_true_eq] at hc
        rw [SP1_off _ q hsp]
        have e0 : (0 : Int32).toInt = 0 := by decide
        rw [e0]
        exact hc
  · left
    have hκ : κ < 116 := (List.getElem?_eq_some_iff.mp hK).1
    have hc := List.all_eq_true.mp nul_10 κ (List.mem_range.mpr hκ)
    rw [hK] at hc
    have hc := List.all_eq_true.mp hc k (List.mem_range.mpr (List.getElem?_eq_some_iff.mp hf).1)
    rw [hf] at hc
    have e := Nat.eq_of_beq_eq_true hc
    subst e
    have := kdn_one (c := 89) (κ := 10) (by decide +kernel) hq
    subst this
    rfl
theorem GI_0 (g : Nat → Int32) (h1 h2 : Nat → Int64) : GI 16 (S1 g, S2 h1 h2) := by
  have e0 : (0 : Int32).toInt = 0 := by decide
  have e18 : (S1 g 97 18) = 0 := rfl
  have hp : pack 16 (S1 g, S2 h1 h2) := by
    unfold pack
    show (16 = 4 ∨ 16 = 8 ∨ 16 = 12 ∨ 16 = 16) ∧ 1 ≤ (4 : Int32).toInt ∧ (4 : Int32).toInt ≤ 4 ∧ 1 ≤ (4 : Int32).toInt ∧ (4 : Int32).toInt ≤ 16 ∧ (4 : Int32).toInt * (4 : Int32).toInt = (16 : Nat)
    decide
  refine ⟨typed_0 g h1 h2, ⟨⟨?_, ?_, 16, hp⟩, ?_, ?_, ?_, ?_⟩, hp, fun i _ => ?_, ⟨fun _ => ?_, fun h => ?_⟩, fun s hs h => ?_⟩
  · show 0 ≤ (0 : Int32).toInt; decide
  · show (0 : Int32).toInt ≤ 1; decide
  · show 0 ≤ (0 : Int32).toInt; decide
  · show (0 : Int32).toInt ≤ 1; decide
  · show (0 : Int32).toInt ≤ 6; decide
  · intro k hk
    have hk : (k : Int) < (0 : Int32).toInt := hk
    rw [e0] at hk
    omega
  · show 0 ≤ (0 : Int32).toInt ∧ (0 : Int32).toInt ≤ ((pn (i / 4 % 16) : Nat) : Int)
    rw [e0]
    exact ⟨Int.le_refl _, Int.natCast_nonneg _⟩
  · show (0 : Int32).toInt = 0; decide
  · exact absurd (show (0 : Int32) = 0 from rfl) h
  · exact absurd (show (0 : Int32) = 0 from rfl) h
theorem JT_0 (g : Nat → Int32) (h1 h2 : Nat → Int64) : JT 0 0 (S1 g, S2 h1 h2) := ⟨⟨16, GI_0 g h1 h2⟩, (by decide : (0 : Int32).toInt = 0), (by decide : (0 : Int32).toInt = 0)⟩
theorem uniqK {D : va_G} {tys : List (ClassId × FieldType)} {s : State} (hK : va_K D vwCl tys s) (i j : Nat) {c c' : ClassId} {ty : FieldType} (h1 : tys[i]? = some (c, ty)) (h2 : tys[j]? = some (c', ty)) : c = c' := by
  have a1 : va_RA s c ty := (hK.2 i _ h1).2
  have a2 : va_RA s c' ty := (hK.2 j _ h2).2
  cases ty with
  | object C =>
    obtain ⟨_, _, _, _, _, b1⟩ := a1
    obtain ⟨_, _, _, _, _, b2⟩ := a2
    exact Option.some.inj (b1.symm.trans b2)
  | _ =>
    have a1' : s.vm.findClass _ = some c := a1
    have a2' : s.vm.findClass _ = some c' := a2
    exact Option.some.inj (a1'.symm.trans a2')
theorem at_k {D : va_G} {H : Heap} {a n : Nat} {c c' : ClassId} {z : (Nat → Int32) ⊕ (Nat → Int64) ⊕ (Nat → UInt32) ⊕ (Nat → UInt64) ⊕ (Nat → Option Nat)} (h : va_at D vwCl (a, .inl (c, n, z)) H) (e : c = c') : va_at D vwCl (a, .inl (c', n, z)) H := by
  subst e
  exact h
theorem at_ref {D : va_G} {H : Heap} {a n : Nat} {c : ClassId} {f f' : Nat → Option Nat} (h : va_at D vwCl (a, .inl (c, n, .inr (.inr (.inr (.inr f))))) H) (e : ∀ j, j < n → f j = f' j) : va_at D vwCl (a, .inl (c, n, .inr (.inr (.inr (.inr f'))))) H := by
  have h : H[a]? = some (vp_cell c (n, .inr (.inr (.inr (.inr f))))) := h
  show H[a]? = some (vp_cell c (n, .inr (.inr (.inr (.inr f')))))
  rw [h, vp_cell_q, vp_cell_q]
  unfold arrV
  congr 3
  funext j
  exact congrArg va_rf (e j.val j.isLt)
def th0 (D : va_G) (q q2 : Nat → Nat) (k k2 : Nat → ClassId) : Th := (D, (fun i => bif Nat.blt i 97 then q i else q2 (i - 97)), (fun t => match t with | 1 => k 4 | 2 => k 1 | 3 => k2 18 | 4 => k 16 | 5 => k 2 | 6 => k 76 | _ => k 78))
section World0
variable {D : va_G} {A : Nat → Prop} {H : Heap} {s : State} {q q2 : Nat → Nat} {k k2 : Nat → ClassId} {g g2 : Nat → Nat → Int32} {gl gl2 : Nat → Nat → Int64}
abbrev sg0 (g : Nat → Nat → Int32) (gl gl2 : Nat → Nat → Int64) : Sg := (S1 (g 11), S2 (gl 21) (gl2 7))
set_option maxRecDepth 100000 in
set_option maxHeartbeats 4000000 in
theorem at0_0 (hPx : va_P D vwCl (wX q k g gl) H) (hPm : va_P D vwCl (wM q2 k2 g2 gl2) H) (hK : va_K D vwCl (tyX k ++ tyM k2) s) (i : Nat) (h1 : 0 ≤ i) (h2 : i < 20) : va_at D vwCl ((th0 D q q2 k k2).2.1 i, mkE (th0 D q q2 k k2) (sg0 g gl gl2) i) H := by
  rcases (show i = 0 ∨ i = 1 ∨ i = 2 ∨ i = 3 ∨ i = 4 ∨ i = 5 ∨ i = 6 ∨ i = 7 ∨ i = 8 ∨ i = 9 ∨ i = 10 ∨ i = 11 ∨ i = 12 ∨ i = 13 ∨ i = 14 ∨ i = 15 ∨ i = 16 ∨ i = 17 ∨ i = 18 ∨ i = 19 by omega) with rfl | rfl | rfl | rfl | rfl | rfl | rfl | rfl | rfl | rfl | rfl | rfl | rfl | rfl | rfl | rfl | rfl | rfl | rfl | rfl
  · rw [mkE_obj _ _ (q := 0) (n := 11) rfl]; exact (hPx 0 _ rfl)
  · rw [mkE_int _ _ (q := 1) (t := 2) (n := 2000) rfl (by decide) (by decide)]; exact at_k (hPx 1 _ rfl) (uniqK hK 0 0 rfl rfl)
  · rw [mkE_ref _ _ (q := 2) (t := 5) (n := 2) rfl (by decide)]
    refine at_ref (at_k (hPx 2 _ rfl) (uniqK hK 1 1 rfl rfl)) (fun j hj => ?_)
    rcases (show j = 0 ∨ j = 1 by omega) with rfl | rfl
    · rfl
    · rfl
  · rw [mkE_obj _ _ (q := 3) (n := 5) rfl]; exact (hPx 3 _ rfl)
  · rw [mkE_int _ _ (q := 4) (t := 1) (n := 6) rfl (by decide) (by decide)]; exact at_k (hPx 4 _ rfl) (uniqK hK 2 2 rfl rfl)
  · rw [mkE_int _ _ (q := 5) (t := 1) (n := 6) rfl (by decide) (by decide)]; exact at_k (hPx 5 _ rfl) (uniqK hK 3 2 rfl rfl)
  · rw [mkE_int _ _ (q := 6) (t := 1) (n := 12) rfl (by decide) (by decide)]; exact at_k (hPx 6 _ rfl) (uniqK hK 4 2 rfl rfl)
  · rw [mkE_int _ _ (q := 7) (t := 1) (n := 12) rfl (by decide) (by decide)]; exact at_k (hPx 7 _ rfl) (uniqK hK 5 2 rfl rfl)
  · rw [mkE_int _ _ (q := 8) (t := 1) (n := 400) rfl (by decide) (by decide)]; exact at_k (hPx 8 _ rfl) (uniqK hK 6 2 rfl rfl)
  · rw [mkE_int _ _ (q := 9) (t := 1) (n := 4) rfl (by decide) (by decide)]; exact at_k (hPx 9 _ rfl) (uniqK hK 7 2 rfl rfl)
  · rw [mkE_int _ _ (q := 10) (t := 1) (n := 16) rfl (by decide) (by decide)]; exact at_k (hPx 10 _ rfl) (uniqK hK 8 2 rfl rfl)
  · rw [mkE_int _ _ (q := 11) (t := 1) (n := 1820) rfl (by decide) (by decide)]; exact at_k (hPx 11 _ rfl) (uniqK hK 9 2 rfl rfl)
  · rw [mkE_obj _ _ (q := 12) (n := 4) rfl]; exact (hPx 12 _ rfl)
  · rw [mkE_int _ _ (q := 13) (t := 1) (n := 14) rfl (by decide) (by decide)]; exact at_k (hPx 13 _ rfl) (uniqK hK 10 2 rfl rfl)
  · rw [mkE_int _ _ (q := 14) (t := 1) (n := 64) rfl (by decide) (by decide)]; exact at_k (hPx 14 _ rfl) (uniqK hK 11 2 rfl rfl)
  · rw [mkE_obj _ _ (q := 15) (n := 8) rfl]; exact (hPx 15 _ rfl)
  · rw [mkE_long _ _ (q := 16) (n := 6) rfl]; exact at_k (hPx 16 _ rfl) (uniqK hK 12 12 rfl rfl)
  · rw [mkE_obj _ _ (q := 17) (n := 9) rfl]; exact (hPx 17 _ rfl)
  · rw [mkE_int _ _ (q := 18) (t := 1) (n := 402) rfl (by decide) (by decide)]; exact at_k (hPx 18 _ rfl) (uniqK hK 13 2 rfl rfl)
  · rw [mkE_int _ _ (q := 19) (t := 1) (n := 402) rfl (by decide) (by decide)]; exact at_k (hPx 19 _ rfl) (uniqK hK 14 2 rfl rfl)
set_option maxRecDepth 100000 in
set_option maxHeartbeats 4000000 in
theorem at0_20 (hPx : va_P D vwCl (wX q k g gl) H) (hPm : va_P D vwCl (wM q2 k2 g2 gl2) H) (hK : va_K D vwCl (tyX k ++ tyM k2) s) (i : Nat) (h1 : 20 ≤ i) (h2 : i < 40) : va_at D vwCl ((th0 D q q2 k k2).2.1 i, mkE (th0 D q q2 k k2) (sg0 g gl gl2) i) H := by
  rcases (show i = 20 ∨ i = 21 ∨ i = 22 ∨ i = 23 ∨ i = 24 ∨ i = 25 ∨ i = 26 ∨ i = 27 ∨ i = 28 ∨ i = 29 ∨ i = 30 ∨ i = 31 ∨ i = 32 ∨ i = 33 ∨ i = 34 ∨ i = 35 ∨ i = 36 ∨ i = 37 ∨ i = 38 ∨ i = 39 by omega) with rfl | rfl | rfl | rfl | rfl | rfl | rfl | rfl | rfl | rfl | rfl | rfl | rfl | rfl | rfl | rfl | rfl | rfl | rfl | rfl
  · rw [mkE_long _ _ (q := 20) (n := 402) rfl]; exact at_k (hPx 20 _ rfl) (uniqK hK 15 12 rfl rfl)
  · rw [mkE_long _ _ (q := 21) (n := 22) rfl]; exact at_k (hPx 21 _ rfl) (uniqK hK 16 12 rfl rfl)
  · rw [mkE_obj _ _ (q := 22) (n := 3) rfl]; exact (hPx 22 _ rfl)
  · rw [mkE_int _ _ (q := 23) (t := 1) (n := 4) rfl (by decide) (by decide)]; exact at_k (hPx 23 _ rfl) (uniqK hK 17 2 rfl rfl)
  · rw [mkE_int _ _ (q := 24) (t := 1) (n := 4) rfl (by decide) (by decide)]; exact at_k (hPx 24 _ rfl) (uniqK hK 18 2 rfl rfl)
  · rw [mkE_int _ _ (q := 25) (t := 1) (n := 16) rfl (by decide) (by decide)]; exact at_k (hPx 25 _ rfl) (uniqK hK 19 2 rfl rfl)
  · rw [mkE_int _ _ (q := 26) (t := 1) (n := 16) rfl (by decide) (by decide)]; exact at_k (hPx 26 _ rfl) (uniqK hK 20 2 rfl rfl)
  · rw [mkE_int _ _ (q := 27) (t := 1) (n := 16) rfl (by decide) (by decide)]; exact at_k (hPx 27 _ rfl) (uniqK hK 21 2 rfl rfl)
  · rw [mkE_int _ _ (q := 28) (t := 1) (n := 16) rfl (by decide) (by decide)]; exact at_k (hPx 28 _ rfl) (uniqK hK 22 2 rfl rfl)
  · rw [mkE_int _ _ (q := 29) (t := 1) (n := 16) rfl (by decide) (by decide)]; exact at_k (hPx 29 _ rfl) (uniqK hK 23 2 rfl rfl)
  · rw [mkE_int _ _ (q := 30) (t := 1) (n := 16) rfl (by decide) (by decide)]; exact at_k (hPx 30 _ rfl) (uniqK hK 24 2 rfl rfl)
  · rw [mkE_int _ _ (q := 31) (t := 1) (n := 16) rfl (by decide) (by decide)]; exact at_k (hPx 31 _ rfl) (uniqK hK 25 2 rfl rfl)
  · rw [mkE_int _ _ (q := 32) (t := 1) (n := 16) rfl (by decide) (by decide)]; exact at_k (hPx 32 _ rfl) (uniqK hK 26 2 rfl rfl)
  · rw [mkE_int _ _ (q := 33) (t := 1) (n := 4) rfl (by decide) (by decide)]; exact at_k (hPx 33 _ rfl) (uniqK hK 27 2 rfl rfl)
  · rw [mkE_obj _ _ (q := 34) (n := 3) rfl]; exact (hPx 34 _ rfl)
  · rw [mkE_int _ _ (q := 35) (t := 1) (n := 4) rfl (by decide) (by decide)]; exact at_k (hPx 35 _ rfl) (uniqK hK 28 2 rfl rfl)
  · rw [mkE_int _ _ (q := 36) (t := 1) (n := 4) rfl (by decide) (by decide)]; exact at_k (hPx 36 _ rfl) (uniqK hK 29 2 rfl rfl)
  · rw [mkE_int _ _ (q := 37) (t := 1) (n := 16) rfl (by decide) (by decide)]; exact at_k (hPx 37 _ rfl) (uniqK hK 30 2 rfl rfl)
  · rw [mkE_int _ _ (q := 38) (t := 1) (n := 16) rfl (by decide) (by decide)]; exact at_k (hPx 38 _ rfl) (uniqK hK 31 2 rfl rfl)
  · rw [mkE_int _ _ (q := 39) (t := 1) (n := 16) rfl (by decide) (by decide)]; exact at_k (hPx 39 _ rfl) (uniqK hK 32 2 rfl rfl)
set_option maxRecDepth 100000 in
set_option maxHeartbeats 4000000 in
theorem at0_40 (hPx : va_P D vwCl (wX q k g gl) H) (hPm : va_P D vwCl (wM q2 k2 g2 gl2) H) (hK : va_K D vwCl (tyX k ++ tyM k2) s) (i : Nat) (h1 : 40 ≤ i) (h2 : i < 60) : va_at D vwCl ((th0 D q q2 k k2).2.1 i, mkE (th0 D q q2 k k2) (sg0 g gl gl2) i) H := by
  rcases (show i = 40 ∨ i = 41 ∨ i = 42 ∨ i = 43 ∨ i = 44 ∨ i = 45 ∨ i = 46 ∨ i = 47 ∨ i = 48 ∨ i = 49 ∨ i = 50 ∨ i = 51 ∨ i = 52 ∨ i = 53 ∨ i = 54 ∨ i = 55 ∨ i = 56 ∨ i = 57 ∨ i = 58 ∨ i = 59 by omega) with rfl | rfl | rfl | rfl | rfl | rfl | rfl | rfl | rfl | rfl | rfl | rfl | rfl | rfl | rfl | rfl | rfl | rfl | rfl | rfl
  · rw [mkE_int _ _ (q := 40) (t := 1) (n := 16) rfl (by decide) (by decide)]; exact at_k (hPx 40 _ rfl) (uniqK hK 33 2 rfl rfl)
  · rw [mkE_int _ _ (q := 41) (t := 1) (n := 16) rfl (by decide) (by decide)]; exact at_k (hPx 41 _ rfl) (uniqK hK 34 2 rfl rfl)
  · rw [mkE_int _ _ (q := 42) (t := 1) (n := 16) rfl (by decide) (by decide)]; exact at_k (hPx 42 _ rfl) (uniqK hK 35 2 rfl rfl)
  · rw [mkE_int _ _ (q := 43) (t := 1) (n := 16) rfl (by decide) (by decide)]; exact at_k (hPx 43 _ rfl) (uniqK hK 36 2 rfl rfl)
  · rw [mkE_int _ _ (q := 44) (t := 1) (n := 16) rfl (by decide) (by decide)]; exact at_k (hPx 44 _ rfl) (uniqK hK 37 2 rfl rfl)
  · rw [mkE_int _ _ (q := 45) (t := 1) (n := 4) rfl (by decide) (by decide)]; exact at_k (hPx 45 _ rfl) (uniqK hK 38 2 rfl rfl)
  · rw [mkE_obj _ _ (q := 46) (n := 3) rfl]; exact (hPx 46 _ rfl)
  · rw [mkE_int _ _ (q := 47) (t := 1) (n := 4) rfl (by decide) (by decide)]; exact at_k (hPx 47 _ rfl) (uniqK hK 39 2 rfl rfl)
  · rw [mkE_int _ _ (q := 48) (t := 1) (n := 4) rfl (by decide) (by decide)]; exact at_k (hPx 48 _ rfl) (uniqK hK 40 2 rfl rfl)
  · rw [mkE_int _ _ (q := 49) (t := 1) (n := 16) rfl (by decide) (by decide)]; exact at_k (hPx 49 _ rfl) (uniqK hK 41 2 rfl rfl)
  · rw [mkE_int _ _ (q := 50) (t := 1) (n := 16) rfl (by decide) (by decide)]; exact at_k (hPx 50 _ rfl) (uniqK hK 42 2 rfl rfl)
  · rw [mkE_int _ _ (q := 51) (t := 1) (n := 16) rfl (by decide) (by decide)]; exact at_k (hPx 51 _ rfl) (uniqK hK 43 2 rfl rfl)
  · rw [mkE_int _ _ (q := 52) (t := 1) (n := 16) rfl (by decide) (by decide)]; exact at_k (hPx 52 _ rfl) (uniqK hK 44 2 rfl rfl)
  · rw [mkE_int _ _ (q := 53) (t := 1) (n := 16) rfl (by decide) (by decide)]; exact at_k (hPx 53 _ rfl) (uniqK hK 45 2 rfl rfl)
  · rw [mkE_int _ _ (q := 54) (t := 1) (n := 16) rfl (by decide) (by decide)]; exact at_k (hPx 54 _ rfl) (uniqK hK 46 2 rfl rfl)
  · rw [mkE_int _ _ (q := 55) (t := 1) (n := 16) rfl (by decide) (by decide)]; exact at_k (hPx 55 _ rfl) (uniqK hK 47 2 rfl rfl)
  · rw [mkE_int _ _ (q := 56) (t := 1) (n := 16) rfl (by decide) (by decide)]; exact at_k (hPx 56 _ rfl) (uniqK hK 48 2 rfl rfl)
  · rw [mkE_int _ _ (q := 57) (t := 1) (n := 4) rfl (by decide) (by decide)]; exact at_k (hPx 57 _ rfl) (uniqK hK 49 2 rfl rfl)
  · rw [mkE_obj _ _ (q := 58) (n := 3) rfl]; exact (hPx 58 _ rfl)
  · rw [mkE_int _ _ (q := 59) (t := 1) (n := 4) rfl (by decide) (by decide)]; exact at_k (hPx 59 _ rfl) (uniqK hK 50 2 rfl rfl)
set_option maxRecDepth 100000 in
set_option maxHeartbeats 4000000 in
theorem at0_60 (hPx : va_P D vwCl (wX q k g gl) H) (hPm : va_P D vwCl (wM q2 k2 g2 gl2) H) (hK : va_K D vwCl (tyX k ++ tyM k2) s) (i : Nat) (h1 : 60 ≤ i) (h2 : i < 80) : va_at D vwCl ((th0 D q q2 k k2).2.1 i, mkE (th0 D q q2 k k2) (sg0 g gl gl2) i) H := by
  rcases (show i = 60 ∨ i = 61 ∨ i = 62 ∨ i = 63 ∨ i = 64 ∨ i = 65 ∨ i = 66 ∨ i = 67 ∨ i = 68 ∨ i = 69 ∨ i = 70 ∨ i = 71 ∨ i = 72 ∨ i = 73 ∨ i = 74 ∨ i = 75 ∨ i = 76 ∨ i = 77 ∨ i = 78 ∨ i = 79 by omega) with rfl | rfl | rfl | rfl | rfl | rfl | rfl | rfl | rfl | rfl | rfl | rfl | rfl | rfl | rfl | rfl | rfl | rfl | rfl | rfl
  · rw [mkE_int _ _ (q := 60) (t := 1) (n := 4) rfl (by decide) (by decide)]; exact at_k (hPx 60 _ rfl) (uniqK hK 51 2 rfl rfl)
  · rw [mkE_int _ _ (q := 61) (t := 1) (n := 16) rfl (by decide) (by decide)]; exact at_k (hPx 61 _ rfl) (uniqK hK 52 2 rfl rfl)
  · rw [mkE_int _ _ (q := 62) (t := 1) (n := 16) rfl (by decide) (by decide)]; exact at_k (hPx 62 _ rfl) (uniqK hK 53 2 rfl rfl)
  · rw [mkE_int _ _ (q := 63) (t := 1) (n := 16) rfl (by decide) (by decide)]; exact at_k (hPx 63 _ rfl) (uniqK hK 54 2 rfl rfl)
  · rw [mkE_int _ _ (q := 64) (t := 1) (n := 16) rfl (by decide) (by decide)]; exact at_k (hPx 64 _ rfl) (uniqK hK 55 2 rfl rfl)
  · rw [mkE_int _ _ (q := 65) (t := 1) (n := 16) rfl (by decide) (by decide)]; exact at_k (hPx 65 _ rfl) (uniqK hK 56 2 rfl rfl)
  · rw [mkE_int _ _ (q := 66) (t := 1) (n := 16) rfl (by decide) (by decide)]; exact at_k (hPx 66 _ rfl) (uniqK hK 57 2 rfl rfl)
  · rw [mkE_int _ _ (q := 67) (t := 1) (n := 16) rfl (by decide) (by decide)]; exact at_k (hPx 67 _ rfl) (uniqK hK 58 2 rfl rfl)
  · rw [mkE_int _ _ (q := 68) (t := 1) (n := 16) rfl (by decide) (by decide)]; exact at_k (hPx 68 _ rfl) (uniqK hK 59 2 rfl rfl)
  · rw [mkE_int _ _ (q := 69) (t := 1) (n := 4) rfl (by decide) (by decide)]; exact at_k (hPx 69 _ rfl) (uniqK hK 60 2 rfl rfl)
  · rw [mkE_obj _ _ (q := 70) (n := 6) rfl]; exact (hPx 70 _ rfl)
  · rw [mkE_int _ _ (q := 71) (t := 1) (n := 4) rfl (by decide) (by decide)]; exact at_k (hPx 71 _ rfl) (uniqK hK 61 2 rfl rfl)
  · rw [mkE_int _ _ (q := 72) (t := 1) (n := 2048) rfl (by decide) (by decide)]; exact at_k (hPx 72 _ rfl) (uniqK hK 62 2 rfl rfl)
  · rw [mkE_int _ _ (q := 73) (t := 1) (n := 4) rfl (by decide) (by decide)]; exact at_k (hPx 73 _ rfl) (uniqK hK 63 2 rfl rfl)
  · rw [mkE_int _ _ (q := 74) (t := 1) (n := 16) rfl (by decide) (by decide)]; exact at_k (hPx 74 _ rfl) (uniqK hK 64 2 rfl rfl)
  · rw [mkE_obj _ _ (q := 75) (n := 1) rfl]; exact (hPx 75 _ rfl)
  · rw [mkE_ref _ _ (q := 76) (t := 6) (n := 4) rfl (by decide)]
    refine at_ref (at_k (hPx 76 _ rfl) (uniqK hK 65 65 rfl rfl)) (fun j hj => ?_)
    rcases (show j = 0 ∨ j = 1 ∨ j = 2 ∨ j = 3 by omega) with rfl | rfl | rfl | rfl
    · rfl
    · rfl
    · rfl
    · rfl
  · rw [mkE_int _ _ (q := 77) (t := 1) (n := 4) rfl (by decide) (by decide)]; exact at_k (hPx 77 _ rfl) (uniqK hK 66 2 rfl rfl)
  · rw [mkE_ref _ _ (q := 78) (t := 7) (n := 4) rfl (by decide)]
    refine at_ref (at_k (hPx 78 _ rfl) (uniqK hK 67 67 rfl rfl)) (fun j hj => ?_)
    rcases (show j = 0 ∨ j = 1 ∨ j = 2 ∨ j = 3 by omega) with rfl | rfl | rfl | rfl
    · rfl
    · rfl
    · rfl
    · rfl
  · rw [mkE_int _ _ (q := 79) (t := 1) (n := 4) rfl (by decide) (by decide)]; exact at_k (hPx 79 _ rfl) (uniqK hK 68 2 rfl rfl)
set_option maxRecDepth 100000 in
set_option maxHeartbeats 4000000 in
theorem at0_80 (hPx : va_P D vwCl (wX q k g gl) H) (hPm : va_P D vwCl (wM q2 k2 g2 gl2) H) (hK : va_K D vwCl (tyX k ++ tyM k2) s) (i : Nat) (h1 : 80 ≤ i) (h2 : i < 100) : va_at D vwCl ((th0 D q q2 k k2).2.1 i, mkE (th0 D q q2 k k2) (sg0 g gl gl2) i) H := by
  rcases (show i = 80 ∨ i = 81 ∨ i = 82 ∨ i = 83 ∨ i = 84 ∨ i = 85 ∨ i = 86 ∨ i = 87 ∨ i = 88 ∨ i = 89 ∨ i = 90 ∨ i = 91 ∨ i = 92 ∨ i = 93 ∨ i = 94 ∨ i = 95 ∨ i = 96 ∨ i = 97 ∨ i = 98 ∨ i = 99 by omega) with rfl | rfl | rfl | rfl | rfl | rfl | rfl | rfl | rfl | rfl | rfl | rfl | rfl | rfl | rfl | rfl | rfl | rfl | rfl | rfl
  · rw [mkE_int _ _ (q := 80) (t := 1) (n := 4) rfl (by decide) (by decide)]; exact at_k (hPx 80 _ rfl) (uniqK hK 69 2 rfl rfl)
  · rw [mkE_int _ _ (q := 81) (t := 1) (n := 495) rfl (by decide) (by decide)]; exact at_k (hPx 81 _ rfl) (uniqK hK 70 2 rfl rfl)
  · rw [mkE_int _ _ (q := 82) (t := 1) (n := 495) rfl (by decide) (by decide)]; exact at_k (hPx 82 _ rfl) (uniqK hK 71 2 rfl rfl)
  · rw [mkE_int _ _ (q := 83) (t := 1) (n := 495) rfl (by decide) (by decide)]; exact at_k (hPx 83 _ rfl) (uniqK hK 72 2 rfl rfl)
  · rw [mkE_int _ _ (q := 84) (t := 1) (n := 495) rfl (by decide) (by decide)]; exact at_k (hPx 84 _ rfl) (uniqK hK 73 2 rfl rfl)
  · rw [mkE_long _ _ (q := 85) (n := 1024) rfl]; exact at_k (hPx 85 _ rfl) (uniqK hK 74 12 rfl rfl)
  · rw [mkE_long _ _ (q := 86) (n := 1024) rfl]; exact at_k (hPx 86 _ rfl) (uniqK hK 75 12 rfl rfl)
  · rw [mkE_long _ _ (q := 87) (n := 1024) rfl]; exact at_k (hPx 87 _ rfl) (uniqK hK 76 12 rfl rfl)
  · rw [mkE_long _ _ (q := 88) (n := 1024) rfl]; exact at_k (hPx 88 _ rfl) (uniqK hK 77 12 rfl rfl)
  · rw [mkE_obj _ _ (q := 89) (n := 10) rfl]; exact (hPx 89 _ rfl)
  · rw [mkE_int _ _ (q := 90) (t := 1) (n := 80) rfl (by decide) (by decide)]; exact at_k (hPx 90 _ rfl) (uniqK hK 78 2 rfl rfl)
  · rw [mkE_obj _ _ (q := 91) (n := 2) rfl]; exact (hPx 91 _ rfl)
  · rw [mkE_int _ _ (q := 92) (t := 1) (n := 1024) rfl (by decide) (by decide)]; exact at_k (hPx 92 _ rfl) (uniqK hK 79 2 rfl rfl)
  · rw [mkE_obj _ _ (q := 93) (n := 0) rfl]; exact (hPx 93 _ rfl)
  · rw [mkE_int _ _ (q := 94) (t := 1) (n := 48) rfl (by decide) (by decide)]; exact at_k (hPx 94 _ rfl) (uniqK hK 80 2 rfl rfl)
  · rw [mkE_int _ _ (q := 95) (t := 1) (n := 48) rfl (by decide) (by decide)]; exact at_k (hPx 95 _ rfl) (uniqK hK 81 2 rfl rfl)
  · rw [mkE_obj _ _ (q := 96) (n := 7) rfl]; exact (hPx 96 _ rfl)
  · rw [mkE_obj _ _ (q := 97) (n := 12) rfl]; exact (hPm 0 _ rfl)
  · rw [mkE_int _ _ (q := 98) (t := 2) (n := 2000) rfl (by decide) (by decide)]; exact at_k (hPm 1 _ rfl) (uniqK hK 82 0 rfl rfl)
  · rw [mkE_int _ _ (q := 99) (t := 2) (n := 2000) rfl (by decide) (by decide)]; exact at_k (hPm 2 _ rfl) (uniqK hK 83 0 rfl rfl)
set_option maxRecDepth 100000 in
set_option maxHeartbeats 4000000 in
theorem at0_100 (hPx : va_P D vwCl (wX q k g gl) H) (hPm : va_P D vwCl (wM q2 k2 g2 gl2) H) (hK : va_K D vwCl (tyX k ++ tyM k2) s) (i : Nat) (h1 : 100 ≤ i) (h2 : i < 120) : va_at D vwCl ((th0 D q q2 k k2).2.1 i, mkE (th0 D q q2 k k2) (sg0 g gl gl2) i) H := by
  rcases (show i = 100 ∨ i = 101 ∨ i = 102 ∨ i = 103 ∨ i = 104 ∨ i = 105 ∨ i = 106 ∨ i = 107 ∨ i = 108 ∨ i = 109 ∨ i = 110 ∨ i = 111 ∨ i = 112 ∨ i = 113 ∨ i = 114 ∨ i = 115 ∨ i = 116 ∨ i = 117 ∨ i = 118 ∨ i = 119 by omega) with rfl | rfl | rfl | rfl | rfl | rfl | rfl | rfl | rfl | rfl | rfl | rfl | rfl | rfl | rfl | rfl | rfl | rfl | rfl | rfl
  · rw [mkE_int _ _ (q := 100) (t := 1) (n := 403) rfl (by decide) (by decide)]; exact at_k (hPm 3 _ rfl) (uniqK hK 84 2 rfl rfl)
  · rw [mkE_int _ _ (q := 101) (t := 1) (n := 403) rfl (by decide) (by decide)]; exact at_k (hPm 4 _ rfl) (uniqK hK 85 2 rfl rfl)
  · rw [mkE_int _ _ (q := 102) (t := 1) (n := 403) rfl (by decide) (by decide)]; exact at_k (hPm 5 _ rfl) (uniqK hK 86 2 rfl rfl)
  · rw [mkE_long _ _ (q := 103) (n := 403) rfl]; exact at_k (hPm 6 _ rfl) (uniqK hK 87 12 rfl rfl)
  · rw [mkE_long _ _ (q := 104) (n := 22) rfl]; exact at_k (hPm 7 _ rfl) (uniqK hK 88 12 rfl rfl)
  · rw [mkE_long _ _ (q := 105) (n := 6) rfl]; exact at_k (hPm 8 _ rfl) (uniqK hK 89 12 rfl rfl)
  · rw [mkE_int _ _ (q := 106) (t := 1) (n := 2) rfl (by decide) (by decide)]; exact at_k (hPm 9 _ rfl) (uniqK hK 90 2 rfl rfl)
  · rw [mkE_int _ _ (q := 107) (t := 1) (n := 2) rfl (by decide) (by decide)]; exact at_k (hPm 10 _ rfl) (uniqK hK 91 2 rfl rfl)
  · rw [mkE_int _ _ (q := 108) (t := 1) (n := 2) rfl (by decide) (by decide)]; exact at_k (hPm 11 _ rfl) (uniqK hK 92 2 rfl rfl)
  · rw [mkE_int _ _ (q := 109) (t := 1) (n := 2) rfl (by decide) (by decide)]; exact at_k (hPm 12 _ rfl) (uniqK hK 93 2 rfl rfl)
  · rw [mkE_int _ _ (q := 110) (t := 1) (n := 12) rfl (by decide) (by decide)]; exact at_k (hPm 13 _ rfl) (uniqK hK 94 2 rfl rfl)
  · rw [mkE_int _ _ (q := 111) (t := 1) (n := 12) rfl (by decide) (by decide)]; exact at_k (hPm 14 _ rfl) (uniqK hK 95 2 rfl rfl)
  · rw [mkE_int _ _ (q := 112) (t := 1) (n := 24) rfl (by decide) (by decide)]; exact at_k (hPm 15 _ rfl) (uniqK hK 96 2 rfl rfl)
  · rw [mkE_int _ _ (q := 113) (t := 1) (n := 24) rfl (by decide) (by decide)]; exact at_k (hPm 16 _ rfl) (uniqK hK 97 2 rfl rfl)
  · rw [mkE_int _ _ (q := 114) (t := 1) (n := 300) rfl (by decide) (by decide)]; exact at_k (hPm 17 _ rfl) (uniqK hK 98 2 rfl rfl)
  · rw [mkE_int _ _ (q := 115) (t := 3) (n := 300) rfl (by decide) (by decide)]; exact at_k (hPm 18 _ rfl) (uniqK hK 99 99 rfl rfl)
  · rw [mkE_int _ _ (q := 116) (t := 3) (n := 300) rfl (by decide) (by decide)]; exact at_k (hPm 19 _ rfl) (uniqK hK 100 99 rfl rfl)
  · rw [mkE_int _ _ (q := 117) (t := 1) (n := 300) rfl (by decide) (by decide)]; exact at_k (hPm 20 _ rfl) (uniqK hK 101 2 rfl rfl)
  · rw [mkE_int _ _ (q := 118) (t := 1) (n := 300) rfl (by decide) (by decide)]; exact at_k (hPm 21 _ rfl) (uniqK hK 102 2 rfl rfl)
  · rw [mkE_int _ _ (q := 119) (t := 1) (n := 300) rfl (by decide) (by decide)]; exact at_k (hPm 22 _ rfl) (uniqK hK 103 2 rfl rfl)
set_option maxRecDepth 100000 in
set_option maxHeartbeats 4000000 in
theorem at0_120 (hPx : va_P D vwCl (wX q k g gl) H) (hPm : va_P D vwCl (wM q2 k2 g2 gl2) H) (hK : va_K D vwCl (tyX k ++ tyM k2) s) (i : Nat) (h1 : 120 ≤ i) (h2 : i < 140) : va_at D vwCl ((th0 D q q2 k k2).2.1 i, mkE (th0 D q q2 k k2) (sg0 g gl gl2) i) H := by
  rcases (show i = 120 ∨ i = 121 ∨ i = 122 ∨ i = 123 ∨ i = 124 ∨ i = 125 ∨ i = 126 ∨ i = 127 ∨ i = 128 ∨ i = 129 ∨ i = 130 ∨ i = 131 ∨ i = 132 ∨ i = 133 ∨ i = 134 ∨ i = 135 ∨ i = 136 ∨ i = 137 ∨ i = 138 ∨ i = 139 by omega) with rfl | rfl | rfl | rfl | rfl | rfl | rfl | rfl | rfl | rfl | rfl | rfl | rfl | rfl | rfl | rfl | rfl | rfl | rfl | rfl
  · rw [mkE_int _ _ (q := 120) (t := 1) (n := 840) rfl (by decide) (by decide)]; exact at_k (hPm 23 _ rfl) (uniqK hK 104 2 rfl rfl)
  · rw [mkE_int _ _ (q := 121) (t := 1) (n := 840) rfl (by decide) (by decide)]; exact at_k (hPm 24 _ rfl) (uniqK hK 105 2 rfl rfl)
  · rw [mkE_int _ _ (q := 122) (t := 1) (n := 64) rfl (by decide) (by decide)]; exact at_k (hPm 25 _ rfl) (uniqK hK 106 2 rfl rfl)
  · rw [mkE_int _ _ (q := 123) (t := 1) (n := 14) rfl (by decide) (by decide)]; exact at_k (hPm 26 _ rfl) (uniqK hK 107 2 rfl rfl)
  · rw [mkE_int _ _ (q := 124) (t := 1) (n := 400) rfl (by decide) (by decide)]; exact at_k (hPm 27 _ rfl) (uniqK hK 108 2 rfl rfl)
  · rw [mkE_int _ _ (q := 125) (t := 1) (n := 4) rfl (by decide) (by decide)]; exact at_k (hPm 28 _ rfl) (uniqK hK 109 2 rfl rfl)
  · rw [mkE_int _ _ (q := 126) (t := 1) (n := 16) rfl (by decide) (by decide)]; exact at_k (hPm 29 _ rfl) (uniqK hK 110 2 rfl rfl)
  · rw [mkE_int _ _ (q := 127) (t := 1) (n := 16) rfl (by decide) (by decide)]; exact at_k (hPm 30 _ rfl) (uniqK hK 111 2 rfl rfl)
  · rw [mkE_int _ _ (q := 128) (t := 1) (n := 16) rfl (by decide) (by decide)]; exact at_k (hPm 31 _ rfl) (uniqK hK 112 2 rfl rfl)
  · rw [mkE_int _ _ (q := 129) (t := 1) (n := 4) rfl (by decide) (by decide)]; exact at_k (hPm 32 _ rfl) (uniqK hK 113 2 rfl rfl)
  · rw [mkE_int _ _ (q := 130) (t := 1) (n := 3) rfl (by decide) (by decide)]; exact at_k (hPm 33 _ rfl) (uniqK hK 114 2 rfl rfl)
  · rw [mkE_int _ _ (q := 131) (t := 1) (n := 3) rfl (by decide) (by decide)]; exact at_k (hPm 34 _ rfl) (uniqK hK 115 2 rfl rfl)
  · rw [mkE_int _ _ (q := 132) (t := 1) (n := 3) rfl (by decide) (by decide)]; exact at_k (hPm 35 _ rfl) (uniqK hK 116 2 rfl rfl)
  · rw [mkE_int _ _ (q := 133) (t := 1) (n := 16) rfl (by decide) (by decide)]; exact at_k (hPm 36 _ rfl) (uniqK hK 117 2 rfl rfl)
  · rw [mkE_int _ _ (q := 134) (t := 1) (n := 4) rfl (by decide) (by decide)]; exact at_k (hPm 37 _ rfl) (uniqK hK 118 2 rfl rfl)
  · rw [mkE_int _ _ (q := 135) (t := 1) (n := 65536) rfl (by decide) (by decide)]; exact at_k (hPm 38 _ rfl) (uniqK hK 119 2 rfl rfl)
  · rw [mkE_int _ _ (q := 136) (t := 2) (n := 262144) rfl (by decide) (by decide)]; exact at_k (hPm 39 _ rfl) (uniqK hK 120 0 rfl rfl)
  · rw [mkE_int _ _ (q := 137) (t := 1) (n := 4) rfl (by decide) (by decide)]; exact at_k (hPm 40 _ rfl) (uniqK hK 121 2 rfl rfl)
  · rw [mkE_int _ _ (q := 138) (t := 1) (n := 16) rfl (by decide) (by decide)]; exact at_k (hPm 41 _ rfl) (uniqK hK 122 2 rfl rfl)
  · rw [mkE_int _ _ (q := 139) (t := 1) (n := 4) rfl (by decide) (by decide)]; exact at_k (hPm 42 _ rfl) (uniqK hK 123 2 rfl rfl)
set_option maxRecDepth 100000 in
set_option maxHeartbeats 4000000 in
theorem at0_140 (hPx : va_P D vwCl (wX q k g gl) H) (hPm : va_P D vwCl (wM q2 k2 g2 gl2) H) (hK : va_K D vwCl (tyX k ++ tyM k2) s) (i : Nat) (h1 : 140 ≤ i) (h2 : i < 158) : va_at D vwCl ((th0 D q q2 k k2).2.1 i, mkE (th0 D q q2 k k2) (sg0 g gl gl2) i) H := by
  rcases (show i = 140 ∨ i = 141 ∨ i = 142 ∨ i = 143 ∨ i = 144 ∨ i = 145 ∨ i = 146 ∨ i = 147 ∨ i = 148 ∨ i = 149 ∨ i = 150 ∨ i = 151 ∨ i = 152 ∨ i = 153 ∨ i = 154 ∨ i = 155 ∨ i = 156 ∨ i = 157 by omega) with rfl | rfl | rfl | rfl | rfl | rfl | rfl | rfl | rfl | rfl | rfl | rfl | rfl | rfl | rfl | rfl | rfl | rfl
  · rw [mkE_int _ _ (q := 140) (t := 1) (n := 4) rfl (by decide) (by decide)]; exact at_k (hPm 43 _ rfl) (uniqK hK 124 2 rfl rfl)
  · rw [mkE_int _ _ (q := 141) (t := 1) (n := 4) rfl (by decide) (by decide)]; exact at_k (hPm 44 _ rfl) (uniqK hK 125 2 rfl rfl)
  · rw [mkE_int _ _ (q := 142) (t := 1) (n := 4) rfl (by decide) (by decide)]; exact at_k (hPm 45 _ rfl) (uniqK hK 126 2 rfl rfl)
  · rw [mkE_int _ _ (q := 143) (t := 1) (n := 4) rfl (by decide) (by decide)]; exact at_k (hPm 46 _ rfl) (uniqK hK 127 2 rfl rfl)
  · rw [mkE_long _ _ (q := 144) (n := 16) rfl]; exact at_k (hPm 47 _ rfl) (uniqK hK 128 12 rfl rfl)
  · rw [mkE_int _ _ (q := 145) (t := 1) (n := 16) rfl (by decide) (by decide)]; exact at_k (hPm 48 _ rfl) (uniqK hK 129 2 rfl rfl)
  · rw [mkE_int _ _ (q := 146) (t := 1) (n := 80) rfl (by decide) (by decide)]; exact at_k (hPm 49 _ rfl) (uniqK hK 130 2 rfl rfl)
  · rw [mkE_int _ _ (q := 147) (t := 1) (n := 4) rfl (by decide) (by decide)]; exact at_k (hPm 50 _ rfl) (uniqK hK 131 2 rfl rfl)
  · rw [mkE_int _ _ (q := 148) (t := 1) (n := 16) rfl (by decide) (by decide)]; exact at_k (hPm 51 _ rfl) (uniqK hK 132 2 rfl rfl)
  · rw [mkE_int _ _ (q := 149) (t := 1) (n := 16) rfl (by decide) (by decide)]; exact at_k (hPm 52 _ rfl) (uniqK hK 133 2 rfl rfl)
  · rw [mkE_int _ _ (q := 150) (t := 1) (n := 48) rfl (by decide) (by decide)]; exact at_k (hPm 53 _ rfl) (uniqK hK 134 2 rfl rfl)
  · rw [mkE_int _ _ (q := 151) (t := 1) (n := 48) rfl (by decide) (by decide)]; exact at_k (hPm 54 _ rfl) (uniqK hK 135 2 rfl rfl)
  · rw [mkE_int _ _ (q := 152) (t := 3) (n := 2) rfl (by decide) (by decide)]; exact at_k (hPm 55 _ rfl) (uniqK hK 136 99 rfl rfl)
  · rw [mkE_int _ _ (q := 153) (t := 1) (n := 8) rfl (by decide) (by decide)]; exact at_k (hPm 56 _ rfl) (uniqK hK 137 2 rfl rfl)
  · rw [mkE_int _ _ (q := 154) (t := 1) (n := 2) rfl (by decide) (by decide)]; exact at_k (hPm 57 _ rfl) (uniqK hK 138 2 rfl rfl)
  · rw [mkE_int _ _ (q := 155) (t := 1) (n := 2) rfl (by decide) (by decide)]; exact at_k (hPm 58 _ rfl) (uniqK hK 139 2 rfl rfl)
  · rw [mkE_int _ _ (q := 156) (t := 1) (n := 32) rfl (by decide) (by decide)]; exact at_k (hPm 59 _ rfl) (uniqK hK 140 2 rfl rfl)
  · rw [mkE_int _ _ (q := 157) (t := 1) (n := 32) rfl (by decide) (by decide)]; exact at_k (hPm 60 _ rfl) (uniqK hK 141 2 rfl rfl)
set_option maxRecDepth 100000 in
set_option maxHeartbeats 4000000 in
theorem adr0 : ((wX q k g gl) ++ (wM q2 k2 g2 gl2)).map (fun x => x.1) = (List.range 158).map (th0 D q q2 k k2).2.1 := rfl
theorem Hw_0 (hPx : va_P D vwCl (wX q k g gl) H) (hPm : va_P D vwCl (wM q2 k2 g2 gl2) H) (hK : va_K D vwCl (tyX k ++ tyM k2) s) (hD : va_D A (wX q k g gl ++ wM q2 k2 g2 gl2)) : Hw (th0 D q q2 k k2) A (sg0 g gl gl2) H := by
  have hlen : (mkW (th0 D q q2 k k2) (sg0 g gl gl2)).length = 158 := by simp [mkW]; rfl
  have hat : ∀ i x, (mkW (th0 D q q2 k k2) (sg0 g gl gl2))[i]? = some x → i < 158 ∧ x = ((th0 D q q2 k k2).2.1 i, mkE (th0 D q q2 k k2) (sg0 g gl gl2) i) := fun i x hx => by
    have hi : i < 158 := by rw [← hlen]; exact (List.getElem?_eq_some_iff.mp hx).1
    have e := mkW_at (th0 D q q2 k k2) (sg0 g gl gl2) (q := i) (show i < LAY.length from hi)
    rw [e] at hx
    cases hx
    exact ⟨hi, rfl⟩
  have hw : ∀ i, i < 158 → ∃ e, ((wX q k g gl) ++ (wM q2 k2 g2 gl2))[i]? = some ((th0 D q q2 k k2).2.1 i, e) := fun i hi => by
    have e : (((wX q k g gl) ++ (wM q2 k2 g2 gl2)).map (fun x => x.1))[i]? = some ((th0 D q q2 k k2).2.1 i) := by
      rw [adr0 (D := D), List.getElem?_map, List.getElem?_range hi]
      rfl
    rw [List.getElem?_map] at e
    obtain ⟨x, hx, hx2⟩ := Option.map_eq_some_iff.mp e
    exact ⟨x.2, by rw [hx, ← hx2]⟩
  refine ⟨fun i x hx => ?_, fun i j x y hx hy e => ?_, fun i x hx => ?_⟩
  · obtain ⟨hi, rfl⟩ := hat i x hx
    rcases (show (0 ≤ i ∧ i < 20) ∨ (20 ≤ i ∧ i < 40) ∨ (40 ≤ i ∧ i < 60) ∨ (60 ≤ i ∧ i < 80) ∨ (80 ≤ i ∧ i < 100) ∨ (100 ≤ i ∧ i < 120) ∨ (120 ≤ i ∧ i < 140) ∨ (140 ≤ i ∧ i < 158) by omega) with h | h | h | h | h | h | h | h
    · exact at0_0 hPx hPm hK i h.1 h.2
    · exact at0_20 hPx hPm hK i h.1 h.2
    · exact at0_40 hPx hPm hK i h.1 h.2
    · exact at0_60 hPx hPm hK i h.1 h.2
    · exact at0_80 hPx hPm hK i h.1 h.2
    · exact at0_100 hPx hPm hK i h.1 h.2
    · exact at0_120 hPx hPm hK i h.1 h.2
    · exact at0_140 hPx hPm hK i h.1 h.2
  · obtain ⟨hi, rfl⟩ := hat i x hx
    obtain ⟨hj, rfl⟩ := hat j y hy
    obtain ⟨e1, h1⟩ := hw i hi
    obtain ⟨e2, h2⟩ := hw j hj
    exact hD.1 i j _ _ h1 h2 e
  · obtain ⟨hi, rfl⟩ := hat i x hx
    obtain ⟨e1, h1⟩ := hw i hi
    have h3 := hD.2 i _ h1
    exact h3
theorem K_0 (hK : va_K D vwCl (tyX k ++ tyM k2) s) : va_K (th0 D q q2 k k2).1 vwCl (tysW (th0 D q q2 k k2)) s := hK.sub [2, 0, 99, 12, 1, 65, 67] rfl
end World0
