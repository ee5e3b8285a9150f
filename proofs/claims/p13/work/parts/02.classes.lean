/-! the classes: names, fields in the order of the slots, types; the words of the tables that keep over calls -/
def lwg : List Cond := lw_tbl.filter goodWord
theorem wu_mem {w : Cond} {i : Nat} (h : lw_tbl[i]? = some w) (hg : goodWord w = true) : w ∈ lwg := List.mem_filter.mpr ⟨List.mem_of_getElem? h, hg⟩
theorem wu_tbl {w : Cond} (h : w ∈ lwg) : w ∈ lw_tbl := (List.mem_filter.mp h).1
theorem wu_good : GoodIn lwg lwg := fun w h => ⟨h, good_of_word (List.mem_filter.mp h).2⟩
theorem wu_lay {ws : List Cond} (ps : List Nat) (hp : ws = ps.filterMap (fun i => lw_tbl[i]?)) (hg : ws.all goodWord = true) : ∀ w ∈ ws, w ∈ lwg := by
  intro w hw
  have hg1 := List.all_eq_true.mp hg w hw
  rw [hp] at hw
  obtain ⟨i, -, hi⟩ := List.mem_filterMap.mp hw
  exact wu_mem hi hg1
def RX0 : String := "SignalTable$Books"
def TX0 : u_T := fun k => match k with
  | 0 => ("SignalTable$Books", "applied", "[I", true)
  | 1 => ("SignalTable$Books", "lied", "[I", true)
  | _ => ("SignalTable$Books", "size", "I", false)
def tyX0 : Nat → FieldType := fun k => match k with
  | 0 => .array .int
  | 1 => .array .int
  | _ => .int
set_option maxRecDepth 20000 in
theorem nmX0 : ∀ a, a < 3 → ∀ b, b < 3 → a ≠ b → (TX0 a).2.1 ≠ (TX0 b).2.1 := by decide +kernel
set_option maxRecDepth 20000 in
theorem tyX0_ok : ∀ k, k < 3 → parseFieldDescriptor (TX0 k).2.2.1 = some (tyX0 k) := by decide +kernel
set_option maxRecDepth 20000 in
theorem inX0 : ∀ w ∈ u_ws RX0 TX0 3, w ∈ lwg := wu_lay [671, 673, 675] (by decide +kernel) (by decide +kernel)
def RX1 : String := "SignalTable$Deals"
def TX1 : u_T := fun k => match k with
  | 0 => ("SignalTable$Deals", "laws", "LSignalTable$Laws;", true)
  | 1 => ("SignalTable$Deals", "judge", "LSignalTable$Judge;", true)
  | 2 => ("SignalTable$Deals", "listed", "[[I", true)
  | 3 => ("SignalTable$Deals", "size", "[I", true)
  | 4 => ("SignalTable$Deals", "fitting", "[[J", true)
  | 5 => ("SignalTable$Deals", "played", "[I", true)
  | 6 => ("SignalTable$Deals", "hand", "[I", true)
  | 7 => ("SignalTable$Deals", "own", "I", false)
  | 8 => ("SignalTable$Deals", "one", "I", false)
  | 9 => ("SignalTable$Deals", "two", "I", false)
  | 10 => ("SignalTable$Deals", "three", "I", false)
  | 11 => ("SignalTable$Deals", "atOne", "I", false)
  | _ => ("SignalTable$Deals", "atTwo", "I", false)
def tyX1 : Nat → FieldType := fun k => match k with
  | 0 => .object "SignalTable$Laws"
  | 1 => .object "SignalTable$Judge"
  | 2 => .array (.array .int)
  | 3 => .array .int
  | 4 => .array (.array .long)
  | 5 => .array .int
  | 6 => .array .int
  | 7 => .int
  | 8 => .int
  | 9 => .int
  | 10 => .int
  | 11 => .int
  | _ => .int
set_option maxRecDepth 20000 in
theorem nmX1 : ∀ a, a < 13 → ∀ b, b < 13 → a ≠ b → (TX1 a).2.1 ≠ (TX1 b).2.1 := by decide +kernel
set_option maxRecDepth 20000 in
theorem tyX1_ok : ∀ k, k < 13 → parseFieldDescriptor (TX1 k).2.2.1 = some (tyX1 k) := by decide +kernel
set_option maxRecDepth 20000 in
theorem inX1 : ∀ w ∈ u_ws RX1 TX1 13, w ∈ lwg := wu_lay [590, 592, 594, 596, 598, 600, 602, 604, 606, 608, 610, 612, 614] (by decide +kernel) (by decide +kernel)
def RX2 : String := "SignalTable$Gains"
def TX2 : u_T := fun k => match k with
  | 0 => ("SignalTable$Gains", "trial", "LSignalTable$Game;", true)
  | 1 => ("SignalTable$Gains", "weigher", "LSignalTable$Weigher;", true)
  | _ => ("SignalTable$Gains", "memory", "[I", true)
def tyX2 : Nat → FieldType := fun k => match k with
  | 0 => .object "SignalTable$Game"
  | 1 => .object "SignalTable$Weigher"
  | _ => .array .int
set_option maxRecDepth 20000 in
theorem nmX2 : ∀ a, a < 3 → ∀ b, b < 3 → a ≠ b → (TX2 a).2.1 ≠ (TX2 b).2.1 := by decide +kernel
set_option maxRecDepth 20000 in
theorem tyX2_ok : ∀ k, k < 3 → parseFieldDescriptor (TX2 k).2.2.1 = some (tyX2 k) := by decide +kernel
set_option maxRecDepth 20000 in
theorem inX2 : ∀ w ∈ u_ws RX2 TX2 3, w ∈ lwg := wu_lay [654, 656, 658] (by decide +kernel) (by decide +kernel)
def RX3 : String := "SignalTable$Game"
def TX3 : u_T := fun k => match k with
  | 0 => ("SignalTable$Game", "laws", "LSignalTable$Laws;", true)
  | 1 => ("SignalTable$Game", "judge", "LSignalTable$Judge;", true)
  | 2 => ("SignalTable$Game", "dealtOut", "Z", false)
  | 3 => ("SignalTable$Game", "dealt", "[I", true)
  | 4 => ("SignalTable$Game", "now", "[I", true)
  | 5 => ("SignalTable$Game", "first", "I", false)
  | 6 => ("SignalTable$Game", "turn", "I", false)
  | 7 => ("SignalTable$Game", "size", "I", false)
  | 8 => ("SignalTable$Game", "cards", "[I", true)
  | 9 => ("SignalTable$Game", "who", "[I", true)
  | 10 => ("SignalTable$Game", "kind", "[I", true)
  | 11 => ("SignalTable$Game", "led", "[I", true)
  | 12 => ("SignalTable$Game", "before", "[I", true)
  | 13 => ("SignalTable$Game", "broken", "[I", true)
  | 14 => ("SignalTable$Game", "applies", "[I", true)
  | 15 => ("SignalTable$Game", "lied", "[I", true)
  | 16 => ("SignalTable$Game", "winners", "[I", true)
  | _ => ("SignalTable$Game", "stamp", "I", false)
def tyX3 : Nat → FieldType := fun k => match k with
  | 0 => .object "SignalTable$Laws"
  | 1 => .object "SignalTable$Judge"
  | 2 => .boolean
  | 3 => .array .int
  | 4 => .array .int
  | 5 => .int
  | 6 => .int
  | 7 => .int
  | 8 => .array .int
  | 9 => .array .int
  | 10 => .array .int
  | 11 => .array .int
  | 12 => .array .int
  | 13 => .array .int
  | 14 => .array .int
  | 15 => .array .int
  | 16 => .array .int
  | _ => .int
set_option maxRecDepth 20000 in
theorem nmX3 : ∀ a, a < 18 → ∀ b, b < 18 → a ≠ b → (TX3 a).2.1 ≠ (TX3 b).2.1 := by decide +kernel
set_option maxRecDepth 20000 in
theorem tyX3_ok : ∀ k, k < 18 → parseFieldDescriptor (TX3 k).2.2.1 = some (tyX3 k) := by decide +kernel
set_option maxRecDepth 20000 in
theorem inX3 : ∀ w ∈ u_ws RX3 TX3 18, w ∈ lwg := wu_lay [477, 479, 481, 483, 485, 487, 489, 491, 493, 495, 497, 499, 501, 503, 505, 507, 509, 511] (by decide +kernel) (by decide +kernel)
def RX4 : String := "SignalTable$Judge"
def TX4 : u_T := fun k => match k with
  | 0 => ("SignalTable$Judge", "laws", "LSignalTable$Laws;", true)
  | 1 => ("SignalTable$Judge", "variable", "[I", true)
  | _ => ("SignalTable$Judge", "stack", "[I", true)
def tyX4 : Nat → FieldType := fun k => match k with
  | 0 => .object "SignalTable$Laws"
  | 1 => .array .int
  | _ => .array .int
set_option maxRecDepth 20000 in
theorem nmX4 : ∀ a, a < 3 → ∀ b, b < 3 → a ≠ b → (TX4 a).2.1 ≠ (TX4 b).2.1 := by decide +kernel
set_option maxRecDepth 20000 in
theorem tyX4_ok : ∀ k, k < 3 → parseFieldDescriptor (TX4 k).2.2.1 = some (tyX4 k) := by decide +kernel
set_option maxRecDepth 20000 in
theorem inX4 : ∀ w ∈ u_ws RX4 TX4 3, w ∈ lwg := wu_lay [290, 292, 294] (by decide +kernel) (by decide +kernel)
def RX5 : String := "SignalTable$Laws"
def TX5 : u_T := fun k => match k with
  | 0 => ("SignalTable$Laws", "suits", "I", false)
  | 1 => ("SignalTable$Laws", "ranks", "I", false)
  | 2 => ("SignalTable$Laws", "trump", "I", false)
  | 3 => ("SignalTable$Laws", "customs", "I", false)
  | 4 => ("SignalTable$Laws", "side", "[I", true)
  | 5 => ("SignalTable$Laws", "kind", "[I", true)
  | 6 => ("SignalTable$Laws", "from", "[I", true)
  | 7 => ("SignalTable$Laws", "to", "[I", true)
  | 8 => ("SignalTable$Laws", "step", "[I", true)
  | 9 => ("SignalTable$Laws", "steps", "I", false)
  | 10 => ("SignalTable$Laws", "cards", "I", false)
  | 11 => ("SignalTable$Laws", "handSize", "I", false)
  | 12 => ("SignalTable$Laws", "suitCards", "[I", true)
  | 13 => ("SignalTable$Laws", "suitOf", "[I", true)
  | 14 => ("SignalTable$Laws", "hands", "[I", true)
  | _ => ("SignalTable$Laws", "handCount", "I", false)
def tyX5 : Nat → FieldType := fun k => match k with
  | 0 => .int
  | 1 => .int
  | 2 => .int
  | 3 => .int
  | 4 => .array .int
  | 5 => .array .int
  | 6 => .array .int
  | 7 => .array .int
  | 8 => .array .int
  | 9 => .int
  | 10 => .int
  | 11 => .int
  | 12 => .array .int
  | 13 => .array .int
  | 14 => .array .int
  | _ => .int
set_option maxRecDepth 20000 in
theorem nmX5 : ∀ a, a < 16 → ∀ b, b < 16 → a ≠ b → (TX5 a).2.1 ≠ (TX5 b).2.1 := by decide +kernel
set_option maxRecDepth 20000 in
theorem tyX5_ok : ∀ k, k < 16 → parseFieldDescriptor (TX5 k).2.2.1 = some (tyX5 k) := by decide +kernel
set_option maxRecDepth 20000 in
theorem inX5 : ∀ w ∈ u_ws RX5 TX5 16, w ∈ lwg := wu_lay [246, 248, 250, 252, 254, 256, 258, 260, 262, 264, 266, 268, 270, 272, 274, 276] (by decide +kernel) (by decide +kernel)
def RX6 : String := "SignalTable$Open"
def TX6 : u_T := fun k => match k with
  | 0 => ("SignalTable$Open", "laws", "LSignalTable$Laws;", true)
  | 1 => ("SignalTable$Open", "suitCards", "[I", true)
  | 2 => ("SignalTable$Open", "suitOf", "[I", true)
  | 3 => ("SignalTable$Open", "hand", "[I", true)
  | 4 => ("SignalTable$Open", "trump", "I", false)
  | 5 => ("SignalTable$Open", "turn", "I", false)
  | 6 => ("SignalTable$Open", "trick", "I", false)
  | 7 => ("SignalTable$Open", "left", "I", false)
  | 8 => ("SignalTable$Open", "memory", "[I", true)
  | 9 => ("SignalTable$Open", "remembering", "Z", false)
  | 10 => ("SignalTable$Open", "age", "I", false)
  | 11 => ("SignalTable$Open", "memoryDeal", "[I", true)
  | 12 => ("SignalTable$Open", "line", "[I", true)
  | _ => ("SignalTable$Open", "lineStamp", "I", false)
def tyX6 : Nat → FieldType := fun k => match k with
  | 0 => .object "SignalTable$Laws"
  | 1 => .array .int
  | 2 => .array .int
  | 3 => .array .int
  | 4 => .int
  | 5 => .int
  | 6 => .int
  | 7 => .int
  | 8 => .array .int
  | 9 => .boolean
  | 10 => .int
  | 11 => .array .int
  | 12 => .array .int
  | _ => .int
set_option maxRecDepth 20000 in
theorem nmX6 : ∀ a, a < 14 → ∀ b, b < 14 → a ≠ b → (TX6 a).2.1 ≠ (TX6 b).2.1 := by decide +kernel
set_option maxRecDepth 20000 in
theorem tyX6_ok : ∀ k, k < 14 → parseFieldDescriptor (TX6 k).2.2.1 = some (tyX6 k) := by decide +kernel
set_option maxRecDepth 20000 in
theorem inX6 : ∀ w ∈ u_ws RX6 TX6 14, w ∈ lwg := wu_lay [537, 539, 541, 543, 545, 547, 549, 551, 553, 555, 557, 559, 561, 563] (by decide +kernel) (by decide +kernel)
def RX7 : String := "SignalTable$Openings"
def TX7 : u_T := fun k => match k with
  | 0 => ("SignalTable$Openings", "laws", "LSignalTable$Laws;", true)
  | _ => ("SignalTable$Openings", "judge", "LSignalTable$Judge;", true)
def tyX7 : Nat → FieldType := fun k => match k with
  | 0 => .object "SignalTable$Laws"
  | _ => .object "SignalTable$Judge"
set_option maxRecDepth 20000 in
theorem nmX7 : ∀ a, a < 2 → ∀ b, b < 2 → a ≠ b → (TX7 a).2.1 ≠ (TX7 b).2.1 := by decide +kernel
set_option maxRecDepth 20000 in
theorem tyX7_ok : ∀ k, k < 2 → parseFieldDescriptor (TX7 k).2.2.1 = some (tyX7 k) := by decide +kernel
set_option maxRecDepth 20000 in
theorem inX7 : ∀ w ∈ u_ws RX7 TX7 2, w ∈ lwg := wu_lay [686, 688] (by decide +kernel) (by decide +kernel)
def RX8 : String := "SignalTable$Reader"
def TX8 : u_T := fun k => match k with
  | 0 => ("SignalTable$Reader", "tokens", "LSignalTable$Tokens;", true)
  | 1 => ("SignalTable$Reader", "laws", "LSignalTable$Laws;", true)
  | 2 => ("SignalTable$Reader", "names", "[J", true)
  | 3 => ("SignalTable$Reader", "writing", "Z", false)
  | 4 => ("SignalTable$Reader", "at", "I", false)
  | 5 => ("SignalTable$Reader", "type", "I", false)
  | 6 => ("SignalTable$Reader", "customs", "I", false)
  | 7 => ("SignalTable$Reader", "fault", "I", false)
  | 8 => ("SignalTable$Reader", "place", "I", false)
  | 9 => ("SignalTable$Reader", "laterFault", "I", false)
  | _ => ("SignalTable$Reader", "laterPlace", "I", false)
def tyX8 : Nat → FieldType := fun k => match k with
  | 0 => .object "SignalTable$Tokens"
  | 1 => .object "SignalTable$Laws"
  | 2 => .array .long
  | 3 => .boolean
  | 4 => .int
  | 5 => .int
  | 6 => .int
  | 7 => .int
  | 8 => .int
  | 9 => .int
  | _ => .int
set_option maxRecDepth 20000 in
theorem nmX8 : ∀ a, a < 11 → ∀ b, b < 11 → a ≠ b → (TX8 a).2.1 ≠ (TX8 b).2.1 := by decide +kernel
set_option maxRecDepth 20000 in
theorem tyX8_ok : ∀ k, k < 11 → parseFieldDescriptor (TX8 k).2.2.1 = some (tyX8 k) := by decide +kernel
set_option maxRecDepth 20000 in
theorem inX8 : ∀ w ∈ u_ws RX8 TX8 11, w ∈ lwg := wu_lay [391, 393, 395, 397, 399, 401, 403, 405, 407, 409, 411] (by decide +kernel) (by decide +kernel)
def RX9 : String := "SignalTable$Tokens"
def TX9 : u_T := fun k => match k with
  | 0 => ("SignalTable$Tokens", "type", "[I", true)
  | 1 => ("SignalTable$Tokens", "place", "[I", true)
  | 2 => ("SignalTable$Tokens", "value", "[J", true)
  | 3 => ("SignalTable$Tokens", "words", "[J", true)
  | _ => ("SignalTable$Tokens", "size", "I", false)
def tyX9 : Nat → FieldType := fun k => match k with
  | 0 => .array .int
  | 1 => .array .int
  | 2 => .array .long
  | 3 => .array .long
  | _ => .int
set_option maxRecDepth 20000 in
theorem nmX9 : ∀ a, a < 5 → ∀ b, b < 5 → a ≠ b → (TX9 a).2.1 ≠ (TX9 b).2.1 := by decide +kernel
set_option maxRecDepth 20000 in
theorem tyX9_ok : ∀ k, k < 5 → parseFieldDescriptor (TX9 k).2.2.1 = some (tyX9 k) := by decide +kernel
set_option maxRecDepth 20000 in
theorem inX9 : ∀ w ∈ u_ws RX9 TX9 5, w ∈ lwg := wu_lay [367, 369, 371, 373, 375] (by decide +kernel) (by decide +kernel)
def RX10 : String := "SignalTable$Weigher"
def TX10 : u_T := fun k => match k with
  | 0 => ("SignalTable$Weigher", "deals", "LSignalTable$Deals;", true)
  | 1 => ("SignalTable$Weigher", "solver", "LSignalTable$Open;", true)
  | 2 => ("SignalTable$Weigher", "tally", "[I", true)
  | 3 => ("SignalTable$Weigher", "weighed", "I", false)
  | 4 => ("SignalTable$Weigher", "lastGame", "LSignalTable$Game;", false)
  | 5 => ("SignalTable$Weigher", "lastStamp", "I", false)
  | _ => ("SignalTable$Weigher", "lastCustoms", "I", false)
def tyX10 : Nat → FieldType := fun k => match k with
  | 0 => .object "SignalTable$Deals"
  | 1 => .object "SignalTable$Open"
  | 2 => .array .int
  | 3 => .int
  | 4 => .object "SignalTable$Game"
  | 5 => .int
  | _ => .int
set_option maxRecDepth 20000 in
theorem nmX10 : ∀ a, a < 7 → ∀ b, b < 7 → a ≠ b → (TX10 a).2.1 ≠ (TX10 b).2.1 := by decide +kernel
set_option maxRecDepth 20000 in
theorem tyX10_ok : ∀ k, k < 7 → parseFieldDescriptor (TX10 k).2.2.1 = some (tyX10 k) := by decide +kernel
set_option maxRecDepth 20000 in
theorem inX10 : ∀ w ∈ u_ws RX10 TX10 7, w ∈ lwg := wu_lay [630, 632, 634, 636, 638, 640, 642] (by decide +kernel) (by decide +kernel)
def RX11 : String := "SignalTable"
def TX11 : u_T := fun k => match k with
  | 0 => ("SignalTable", "tape", "[B", true)
  | 1 => ("SignalTable", "tapeSize", "I", false)
  | 2 => ("SignalTable", "laws", "LSignalTable$Laws;", true)
  | 3 => ("SignalTable", "judge", "LSignalTable$Judge;", true)
  | 4 => ("SignalTable", "reader", "LSignalTable$Reader;", true)
  | 5 => ("SignalTable", "game", "LSignalTable$Game;", true)
  | 6 => ("SignalTable", "trial", "LSignalTable$Game;", true)
  | 7 => ("SignalTable", "slots", "[LSignalTable$Game;", true)
  | 8 => ("SignalTable", "solver", "LSignalTable$Open;", true)
  | 9 => ("SignalTable", "deals", "LSignalTable$Deals;", true)
  | 10 => ("SignalTable", "weigher", "LSignalTable$Weigher;", true)
  | 11 => ("SignalTable", "gains", "LSignalTable$Gains;", true)
  | 12 => ("SignalTable", "shelf", "LSignalTable$Books;", true)
  | _ => ("SignalTable", "firstLeads", "LSignalTable$Openings;", true)
def tyX11 : Nat → FieldType := fun k => match k with
  | 0 => .array .byte
  | 1 => .int
  | 2 => .object "SignalTable$Laws"
  | 3 => .object "SignalTable$Judge"
  | 4 => .object "SignalTable$Reader"
  | 5 => .object "SignalTable$Game"
  | 6 => .object "SignalTable$Game"
  | 7 => .array (.object "SignalTable$Game")
  | 8 => .object "SignalTable$Open"
  | 9 => .object "SignalTable$Deals"
  | 10 => .object "SignalTable$Weigher"
  | 11 => .object "SignalTable$Gains"
  | 12 => .object "SignalTable$Books"
  | _ => .object "SignalTable$Openings"
set_option maxRecDepth 20000 in
theorem nmX11 : ∀ a, a < 14 → ∀ b, b < 14 → a ≠ b → (TX11 a).2.1 ≠ (TX11 b).2.1 := by decide +kernel
set_option maxRecDepth 20000 in
theorem tyX11_ok : ∀ k, k < 14 → parseFieldDescriptor (TX11 k).2.2.1 = some (tyX11 k) := by decide +kernel
set_option maxRecDepth 20000 in
theorem inX11 : ∀ w ∈ u_ws RX11 TX11 14, w ∈ lwg := wu_lay [721, 723, 725, 727, 729, 731, 733, 735, 737, 739, 741, 743, 745, 747] (by decide +kernel) (by decide +kernel)
def RX12 : String := "SignalTableModel"
def TX12 : u_T := fun k => match k with
  | 0 => ("SignalTableModel", "thrown", "I", false)
  | 1 => ("SignalTableModel", "tape", "[B", true)
  | 2 => ("SignalTableModel", "taped", "I", false)
  | 3 => ("SignalTableModel", "text", "[B", true)
  | 4 => ("SignalTableModel", "size", "I", false)
  | 5 => ("SignalTableModel", "tKind", "[I", true)
  | 6 => ("SignalTableModel", "tPlace", "[I", true)
  | 7 => ("SignalTableModel", "tValue", "[I", true)
  | 8 => ("SignalTableModel", "tName", "[J", true)
  | 9 => ("SignalTableModel", "keys", "[J", true)
  | 10 => ("SignalTableModel", "tokens", "I", false)
  | 11 => ("SignalTableModel", "t", "I", false)
  | 12 => ("SignalTableModel", "open", "I", false)
  | 13 => ("SignalTableModel", "fault", "I", false)
  | 14 => ("SignalTableModel", "faultPlace", "I", false)
  | 15 => ("SignalTableModel", "worst", "I", false)
  | 16 => ("SignalTableModel", "worstPlace", "I", false)
  | 17 => ("SignalTableModel", "place", "I", false)
  | 18 => ("SignalTableModel", "live", "I", false)
  | 19 => ("SignalTableModel", "side", "I", false)
  | 20 => ("SignalTableModel", "names", "I", false)
  | 21 => ("SignalTableModel", "nameOf", "[J", true)
  | 22 => ("SignalTableModel", "suits", "[I", true)
  | 23 => ("SignalTableModel", "ranks", "[I", true)
  | 24 => ("SignalTableModel", "trump", "[I", true)
  | 25 => ("SignalTableModel", "customs", "[I", true)
  | 26 => ("SignalTableModel", "customSide", "[I", true)
  | 27 => ("SignalTableModel", "customKind", "[I", true)
  | 28 => ("SignalTableModel", "litFirst", "[I", true)
  | 29 => ("SignalTableModel", "litLast", "[I", true)
  | 30 => ("SignalTableModel", "lits", "I", false)
  | 31 => ("SignalTableModel", "litSort", "[I", true)
  | 32 => ("SignalTableModel", "litNot", "[Z", true)
  | 33 => ("SignalTableModel", "litOr", "[Z", true)
  | 34 => ("SignalTableModel", "litLeft", "[I", true)
  | 35 => ("SignalTableModel", "litRight", "[I", true)
  | 36 => ("SignalTableModel", "litEnd", "[I", true)
  | 37 => ("SignalTableModel", "codes", "I", false)
  | 38 => ("SignalTableModel", "code", "[I", true)
  | 39 => ("SignalTableModel", "codeInt", "[I", true)
  | 40 => ("SignalTableModel", "waits", "[I", true)
  | 41 => ("SignalTableModel", "waiting", "I", false)
  | 42 => ("SignalTableModel", "variables", "[I", true)
  | 43 => ("SignalTableModel", "pile", "[I", true)
  | 44 => ("SignalTableModel", "isBroken", "Z", false)
  | 45 => ("SignalTableModel", "isDealt", "Z", false)
  | 46 => ("SignalTableModel", "dealt", "[I", true)
  | 47 => ("SignalTableModel", "leader", "I", false)
  | 48 => ("SignalTableModel", "played", "I", false)
  | 49 => ("SignalTableModel", "cardAt", "[I", true)
  | 50 => ("SignalTableModel", "whoAt", "[I", true)
  | 51 => ("SignalTableModel", "row", "[I", true)
  | 52 => ("SignalTableModel", "trial", "[I", true)
  | 53 => ("SignalTableModel", "dealFor", "I", false)
  | 54 => ("SignalTableModel", "dealTo", "I", false)
  | 55 => ("SignalTableModel", "dealCustoms", "I", false)
  | 56 => ("SignalTableModel", "other", "[I", true)
  | 57 => ("SignalTableModel", "knownOf", "[I", true)
  | 58 => ("SignalTableModel", "needs", "[I", true)
  | 59 => ("SignalTableModel", "free", "I", false)
  | 60 => ("SignalTableModel", "firstSet", "I", false)
  | 61 => ("SignalTableModel", "secondSet", "I", false)
  | 62 => ("SignalTableModel", "applying", "[I", true)
  | 63 => ("SignalTableModel", "surely", "[I", true)
  | 64 => ("SignalTableModel", "waysBy", "[I", true)
  | 65 => ("SignalTableModel", "table", "[B", true)
  | 66 => ("SignalTableModel", "has", "[I", true)
  | 67 => ("SignalTableModel", "cardOf", "[I", true)
  | 68 => ("SignalTableModel", "mask", "[I", true)
  | 69 => ("SignalTableModel", "lying", "I", false)
  | 70 => ("SignalTableModel", "lyingAt", "[I", true)
  | 71 => ("SignalTableModel", "lead0", "I", false)
  | 72 => ("SignalTableModel", "tried", "[I", true)
  | 73 => ("SignalTableModel", "at", "[I", true)
  | 74 => ("SignalTableModel", "found", "[I", true)
  | 75 => ("SignalTableModel", "sumOf", "[J", true)
  | 76 => ("SignalTableModel", "leastOf", "[I", true)
  | 77 => ("SignalTableModel", "spreadOf", "[I", true)
  | 78 => ("SignalTableModel", "meansMay", "I", false)
  | 79 => ("SignalTableModel", "meansDeals", "I", false)
  | 80 => ("SignalTableModel", "wasDealt", "Z", false)
  | 81 => ("SignalTableModel", "wasHands", "[I", true)
  | 82 => ("SignalTableModel", "wasLeader", "I", false)
  | 83 => ("SignalTableModel", "wasPlayed", "I", false)
  | 84 => ("SignalTableModel", "wasCards", "[I", true)
  | 85 => ("SignalTableModel", "wasWho", "[I", true)
  | 86 => ("SignalTableModel", "books", "I", false)
  | 87 => ("SignalTableModel", "bookApplied", "[I", true)
  | 88 => ("SignalTableModel", "bookLies", "[I", true)
  | 89 => ("SignalTableModel", "isHeld", "[Z", true)
  | 90 => ("SignalTableModel", "heldHands", "[I", true)
  | 91 => ("SignalTableModel", "heldLeader", "[I", true)
  | 92 => ("SignalTableModel", "heldPlayed", "[I", true)
  | 93 => ("SignalTableModel", "heldCards", "[I", true)
  | _ => ("SignalTableModel", "heldWho", "[I", true)
def tyX12 : Nat → FieldType := fun k => match k with
  | 0 => .int
  | 1 => .array .byte
  | 2 => .int
  | 3 => .array .byte
  | 4 => .int
  | 5 => .array .int
  | 6 => .array .int
  | 7 => .array .int
  | 8 => .array .long
  | 9 => .array .long
  | 10 => .int
  | 11 => .int
  | 12 => .int
  | 13 => .int
  | 14 => .int
  | 15 => .int
  | 16 => .int
  | 17 => .int
  | 18 => .int
  | 19 => .int
  | 20 => .int
  | 21 => .array .long
  | 22 => .array .int
  | 23 => .array .int
  | 24 => .array .int
  | 25 => .array .int
  | 26 => .array .int
  | 27 => .array .int
  | 28 => .array .int
  | 29 => .array .int
  | 30 => .int
  | 31 => .array .int
  | 32 => .array .boolean
  | 33 => .array .boolean
  | 34 => .array .int
  | 35 => .array .int
  | 36 => .array .int
  | 37 => .int
  | 38 => .array .int
  | 39 => .array .int
  | 40 => .array .int
  | 41 => .int
  | 42 => .array .int
  | 43 => .array .int
  | 44 => .boolean
  | 45 => .boolean
  | 46 => .array .int
  | 47 => .int
  | 48 => .int
  | 49 => .array .int
  | 50 => .array .int
  | 51 => .array .int
  | 52 => .array .int
  | 53 => .int
  | 54 => .int
  | 55 => .int
  | 56 => .array .int
  | 57 => .array .int
  | 58 => .array .int
  | 59 => .int
  | 60 => .int
  | 61 => .int
  | 62 => .array .int
  | 63 => .array .int
  | 64 => .array .int
  | 65 => .array .byte
  | 66 => .array .int
  | 67 => .array .int
  | 68 => .array .int
  | 69 => .int
  | 70 => .array .int
  | 71 => .int
  | 72 => .array .int
  | 73 => .array .int
  | 74 => .array .int
  | 75 => .array .long
  | 76 => .array .int
  | 77 => .array .int
  | 78 => .int
  | 79 => .int
  | 80 => .boolean
  | 81 => .array .int
  | 82 => .int
  | 83 => .int
  | 84 => .array .int
  | 85 => .array .int
  | 86 => .int
  | 87 => .array .int
  | 88 => .array .int
  | 89 => .array .boolean
  | 90 => .array .int
  | 91 => .array .int
  | 92 => .array .int
  | 93 => .array .int
  | _ => .array .int
set_option maxRecDepth 20000 in
theorem nmX12 : ∀ a, a < 95 → ∀ b, b < 95 → a ≠ b → (TX12 a).2.1 ≠ (TX12 b).2.1 := by decide +kernel
set_option maxRecDepth 20000 in
theorem tyX12_ok : ∀ k, k < 95 → parseFieldDescriptor (TX12 k).2.2.1 = some (tyX12 k) := by decide +kernel
set_option maxRecDepth 20000 in
theorem inX12 : ∀ w ∈ u_ws RX12 TX12 95, w ∈ lwg := wu_lay [1609, 1611, 1613, 1615, 1617, 1619, 1621, 1623, 1625, 1627, 1629, 1631, 1633, 1635, 1637, 1639, 1641, 1643, 1645, 1647, 1649, 1651, 1653, 1655, 1657, 1659, 1661, 1663, 1665, 1667, 1669, 1671, 1673, 1675, 1677, 1679, 1681, 1683, 1685, 1687, 1689, 1691, 1693, 1695, 1697, 1699, 1701, 1703, 1705, 1707, 1709, 1711, 1713, 1715, 1717, 1719, 1721, 1723, 1725, 1727, 1729, 1731, 1733, 1735, 1737, 1739, 1741, 1743, 1745, 1747, 1749, 1751, 1753, 1755, 1757, 1759, 1761, 1763, 1765, 1767, 1769, 1771, 1773, 1775, 1777, 1779, 1781, 1783, 1785, 1787, 1789, 1791, 1793, 1795, 1797] (by decide +kernel) (by decide +kernel)
abbrev vwCl : List vw_C := [(RX0, TX0, 3), (RX1, TX1, 13), (RX2, TX2, 3), (RX3, TX3, 18), (RX4, TX4, 3), (RX5, TX5, 16), (RX6, TX6, 14), (RX7, TX7, 2), (RX8, TX8, 11), (RX9, TX9, 5), (RX10, TX10, 7), (RX11, TX11, 14), (RX12, TX12, 95)]
