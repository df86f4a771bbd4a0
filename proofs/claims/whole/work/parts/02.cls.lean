def xcn : List String := ["OverInDinghy", "OverInDinghy$Asks", "OverInDinghy$Club", "OverInDinghy$Draws", "OverInDinghy$Foretold", "OverInDinghy$Odds", "OverInDinghy$Reader", "OverInDinghy$Rescue", "OverInDinghy$Rows", "OverInDinghy$Search", "OverInDinghyModel", "OverInDinghyLaw", "java/lang/Math", "java/lang/String", "java/lang/StringLatin1", "java/util/Arrays", "jdk/internal/util/Preconditions", "java/lang/StringUTF16"]
def cn (o : Nat) : String := xcn.getD o ""
def xF0 : u_T := fun k => match k with
  | 0 => ("OverInDinghy$Asks", "begun", "[I", true)
  | _ => ("OverInDinghy$Asks", "length", "I", false)
def xT0 : Nat → FieldType := fun k => match k with
  | 0 => .array .int
  | _ => .int
def xF1 : u_T := fun k => match k with
  | 0 => ("OverInDinghy$Club", "warmth", "I", false)
  | 1 => ("OverInDinghy$Club", "wind", "I", false)
  | 2 => ("OverInDinghy$Club", "mud", "Z", false)
  | 3 => ("OverInDinghy$Club", "ticks", "I", false)
  | 4 => ("OverInDinghy$Club", "boats", "I", false)
  | 5 => ("OverInDinghy$Club", "hands", "I", false)
  | 6 => ("OverInDinghy$Club", "beam", "[I", true)
  | 7 => ("OverInDinghy$Club", "sail", "[I", true)
  | 8 => ("OverInDinghy$Club", "air", "[I", true)
  | 9 => ("OverInDinghy$Club", "floats", "[I", true)
  | 10 => ("OverInDinghy$Club", "how", "[I", true)
  | 11 => ("OverInDinghy$Club", "mast", "[I", true)
  | 12 => ("OverInDinghy$Club", "water", "[I", true)
  | 13 => ("OverInDinghy$Club", "sided", "[I", true)
  | 14 => ("OverInDinghy$Club", "boatOf", "[I", true)
  | 15 => ("OverInDinghy$Club", "weight", "[I", true)
  | 16 => ("OverInDinghy$Club", "lasts", "[I", true)
  | 17 => ("OverInDinghy$Club", "spot", "[I", true)
  | _ => ("OverInDinghy$Club", "grip", "[I", true)
def xT1 : Nat → FieldType := fun k => match k with
  | 0 => .int
  | 1 => .int
  | 2 => .boolean
  | 3 => .int
  | 4 => .int
  | 5 => .int
  | 6 => .array .int
  | 7 => .array .int
  | 8 => .array .int
  | 9 => .array .int
  | 10 => .array .int
  | 11 => .array .int
  | 12 => .array .int
  | 13 => .array .int
  | 14 => .array .int
  | 15 => .array .int
  | 16 => .array .int
  | 17 => .array .int
  | _ => .array .int
def xF2 : u_T := fun k => match k with
  | 0 => ("OverInDinghy$Draws", "still", "Z", false)
  | _ => ("OverInDinghy$Draws", "x", "J", false)
def xT2 : Nat → FieldType := fun k => match k with
  | 0 => .boolean
  | _ => .long
def xF3 : u_T := fun k => match k with
  | 0 => ("OverInDinghy$Reader", "tape", "[B", true)
  | 1 => ("OverInDinghy$Reader", "length", "I", false)
  | 2 => ("OverInDinghy$Reader", "next", "I", false)
  | 3 => ("OverInDinghy$Reader", "start", "I", false)
  | 4 => ("OverInDinghy$Reader", "token", "I", false)
  | 5 => ("OverInDinghy$Reader", "value", "I", false)
  | 6 => ("OverInDinghy$Reader", "taken", "I", false)
  | 7 => ("OverInDinghy$Reader", "wrong", "I", false)
  | _ => ("OverInDinghy$Reader", "wrongAt", "I", false)
def xT3 : Nat → FieldType := fun k => match k with
  | 0 => .array .byte
  | 1 => .int
  | 2 => .int
  | 3 => .int
  | 4 => .int
  | 5 => .int
  | 6 => .int
  | 7 => .int
  | _ => .int
def xF4 : u_T := fun k => match k with
  | 0 => ("OverInDinghy$Rescue", "order", "[I", true)
  | 1 => ("OverInDinghy$Rescue", "odds", "[I", true)
  | _ => ("OverInDinghy$Rescue", "boats", "I", false)
def xT4 : Nat → FieldType := fun k => match k with
  | 0 => .array .int
  | 1 => .array .int
  | _ => .int
def xF5 : u_T := fun k => match k with
  | 0 => ("OverInDinghy$Rows", "lane", "[I", true)
  | 1 => ("OverInDinghy$Rows", "size", "[I", true)
  | _ => ("OverInDinghy$Rows", "items", "[I", true)
def xT5 : Nat → FieldType := fun k => match k with
  | 0 => .array .int
  | 1 => .array .int
  | _ => .array .int
def xF6 : u_T := fun k => match k with
  | 0 => ("OverInDinghy$Search", "trial", "LOverInDinghy$Club;", true)
  | 1 => ("OverInDinghy$Search", "still", "LOverInDinghy$Draws;", true)
  | 2 => ("OverInDinghy$Search", "one", "I", false)
  | 3 => ("OverInDinghy$Search", "two", "I", false)
  | 4 => ("OverInDinghy$Search", "fewest", "I", false)
  | _ => ("OverInDinghy$Search", "places", "I", false)
def xT6 : Nat → FieldType := fun k => match k with
  | 0 => .object "OverInDinghy$Club"
  | 1 => .object "OverInDinghy$Draws"
  | 2 => .int
  | 3 => .int
  | 4 => .int
  | _ => .int
def xF7 : u_T := fun k => match k with
  | 0 => ("OverInDinghy", "rows", "LOverInDinghy$Rows;", true)
  | 1 => ("OverInDinghy", "reader", "LOverInDinghy$Reader;", true)
  | 2 => ("OverInDinghy", "now", "LOverInDinghy$Club;", true)
  | 3 => ("OverInDinghy", "draft", "LOverInDinghy$Club;", true)
  | 4 => ("OverInDinghy", "imageA", "LOverInDinghy$Club;", true)
  | 5 => ("OverInDinghy", "imageB", "LOverInDinghy$Club;", true)
  | 6 => ("OverInDinghy", "draws", "LOverInDinghy$Draws;", true)
  | 7 => ("OverInDinghy", "search", "LOverInDinghy$Search;", true)
  | 8 => ("OverInDinghy", "rescue", "LOverInDinghy$Rescue;", true)
  | 9 => ("OverInDinghy", "asks", "LOverInDinghy$Asks;", true)
  | 10 => ("OverInDinghy", "lastFault", "I", false)
  | _ => ("OverInDinghy", "lastFinding", "I", false)
def xT7 : Nat → FieldType := fun k => match k with
  | 0 => .object "OverInDinghy$Rows"
  | 1 => .object "OverInDinghy$Reader"
  | 2 => .object "OverInDinghy$Club"
  | 3 => .object "OverInDinghy$Club"
  | 4 => .object "OverInDinghy$Club"
  | 5 => .object "OverInDinghy$Club"
  | 6 => .object "OverInDinghy$Draws"
  | 7 => .object "OverInDinghy$Search"
  | 8 => .object "OverInDinghy$Rescue"
  | 9 => .object "OverInDinghy$Asks"
  | 10 => .int
  | _ => .int
def xF8 : u_T := fun k => match k with
  | 0 => ("OverInDinghyModel", "thrown", "I", false)
  | 1 => ("OverInDinghyModel", "status", "I", false)
  | 2 => ("OverInDinghyModel", "lane", "[I", true)
  | 3 => ("OverInDinghyModel", "many", "[I", true)
  | 4 => ("OverInDinghyModel", "item", "[I", true)
  | 5 => ("OverInDinghyModel", "club", "[I", true)
  | 6 => ("OverInDinghyModel", "fresh", "[I", true)
  | 7 => ("OverInDinghyModel", "isThere", "Z", false)
  | 8 => ("OverInDinghyModel", "now", "[I", true)
  | 9 => ("OverInDinghyModel", "tape", "[I", true)
  | 10 => ("OverInDinghyModel", "taped", "I", false)
  | 11 => ("OverInDinghyModel", "latest", "I", false)
  | 12 => ("OverInDinghyModel", "length", "I", false)
  | 13 => ("OverInDinghyModel", "cursor", "I", false)
  | 14 => ("OverInDinghyModel", "token", "I", false)
  | 15 => ("OverInDinghyModel", "start", "I", false)
  | 16 => ("OverInDinghyModel", "till", "I", false)
  | 17 => ("OverInDinghyModel", "fault", "I", false)
  | 18 => ("OverInDinghyModel", "faultAt", "I", false)
  | 19 => ("OverInDinghyModel", "drawn", "J", false)
  | 20 => ("OverInDinghyModel", "tried", "[I", true)
  | 21 => ("OverInDinghyModel", "one", "I", false)
  | 22 => ("OverInDinghyModel", "other", "I", false)
  | 23 => ("OverInDinghyModel", "bestTicks", "I", false)
  | 24 => ("OverInDinghyModel", "bestFirst", "I", false)
  | 25 => ("OverInDinghyModel", "order", "[I", true)
  | 26 => ("OverInDinghyModel", "bestOrder", "[I", true)
  | 27 => ("OverInDinghyModel", "isKept", "[Z", true)
  | 28 => ("OverInDinghyModel", "keptClub", "[I", true)
  | 29 => ("OverInDinghyModel", "keptNow", "[I", true)
  | 30 => ("OverInDinghyModel", "trace", "[I", true)
  | _ => ("OverInDinghyModel", "traced", "I", false)
def xT8 : Nat → FieldType := fun k => match k with
  | 0 => .int
  | 1 => .int
  | 2 => .array .int
  | 3 => .array .int
  | 4 => .array .int
  | 5 => .array .int
  | 6 => .array .int
  | 7 => .boolean
  | 8 => .array .int
  | 9 => .array .int
  | 10 => .int
  | 11 => .int
  | 12 => .int
  | 13 => .int
  | 14 => .int
  | 15 => .int
  | 16 => .int
  | 17 => .int
  | 18 => .int
  | 19 => .long
  | 20 => .array .int
  | 21 => .int
  | 22 => .int
  | 23 => .int
  | 24 => .int
  | 25 => .array .int
  | 26 => .array .int
  | 27 => .array .boolean
  | 28 => .array .int
  | 29 => .array .int
  | 30 => .array .int
  | _ => .int
abbrev xcl : List vw_C := [("OverInDinghy$Asks", xF0, 2), ("OverInDinghy$Club", xF1, 19), ("OverInDinghy$Draws", xF2, 2), ("OverInDinghy$Reader", xF3, 9), ("OverInDinghy$Rescue", xF4, 3), ("OverInDinghy$Rows", xF5, 3), ("OverInDinghy$Search", xF6, 6), ("OverInDinghy", xF7, 12), ("OverInDinghyModel", xF8, 32)]
def xty (ci : Nat) : Nat → FieldType := match ci with
  | 0 => xT0
  | 1 => xT1
  | 2 => xT2
  | 3 => xT3
  | 4 => xT4
  | 5 => xT5
  | 6 => xT6
  | 7 => xT7
  | _ => xT8
def cokE (q : vw_C) (ty : Nat → FieldType) : Prop := (∀ w ∈ u_ws q.1 q.2.1 q.2.2, w ∈ xg_tbl) ∧ (∀ k, k < q.2.2 → parseFieldDescriptor (q.2.1 k).2.2.1 = some (ty k)) ∧ (∀ a, a < q.2.2 → ∀ b, b < q.2.2 → a ≠ b → (q.2.1 a).2.1 ≠ (q.2.1 b).2.1)
theorem xg_of {w : Cond} (h : w ∈ lw_tbl) (g : goodWord w = true) : w ∈ xg_tbl := List.mem_filter.mpr ⟨h, g⟩
theorem xg_good : ∀ w ∈ xg_tbl, goodWord w = true := fun w h => (List.mem_filter.mp h).2
theorem cok0 : cokE ("OverInDinghy$Asks", xF0, 2) xT0 := ⟨fun w h => xg_of ((by decide +kernel : ∀ w ∈ u_ws "OverInDinghy$Asks" xF0 2, w ∈ lw_tbl) w h) ((by decide +kernel : ∀ w ∈ u_ws "OverInDinghy$Asks" xF0 2, goodWord w = true) w h), by decide +kernel, by decide +kernel⟩
theorem cok1 : cokE ("OverInDinghy$Club", xF1, 19) xT1 := ⟨fun w h => xg_of ((by decide +kernel : ∀ w ∈ u_ws "OverInDinghy$Club" xF1 19, w ∈ lw_tbl) w h) ((by decide +kernel : ∀ w ∈ u_ws "OverInDinghy$Club" xF1 19, goodWord w = true) w h), by decide +kernel, by decide +kernel⟩
theorem cok2 : cokE ("OverInDinghy$Draws", xF2, 2) xT2 := ⟨fun w h => xg_of ((by decide +kernel : ∀ w ∈ u_ws "OverInDinghy$Draws" xF2 2, w ∈ lw_tbl) w h) ((by decide +kernel : ∀ w ∈ u_ws "OverInDinghy$Draws" xF2 2, goodWord w = true) w h), by decide +kernel, by decide +kernel⟩
theorem cok3 : cokE ("OverInDinghy$Reader", xF3, 9) xT3 := ⟨fun w h => xg_of ((by decide +kernel : ∀ w ∈ u_ws "OverInDinghy$Reader" xF3 9, w ∈ lw_tbl) w h) ((by decide +kernel : ∀ w ∈ u_ws "OverInDinghy$Reader" xF3 9, goodWord w = true) w h), by decide +kernel, by decide +kernel⟩
theorem cok4 : cokE ("OverInDinghy$Rescue", xF4, 3) xT4 := ⟨fun w h => xg_of ((by decide +kernel : ∀ w ∈ u_ws "OverInDinghy$Rescue" xF4 3, w ∈ lw_tbl) w h) ((by decide +kernel : ∀ w ∈ u_ws "OverInDinghy$Rescue" xF4 3, goodWord w = true) w h), by decide +kernel, by decide +kernel⟩
theorem cok5 : cokE ("OverInDinghy$Rows", xF5, 3) xT5 := ⟨fun w h => xg_of ((by decide +kernel : ∀ w ∈ u_ws "OverInDinghy$Rows" xF5 3, w ∈ lw_tbl) w h) ((by decide +kernel : ∀ w ∈ u_ws "OverInDinghy$Rows" xF5 3, goodWord w = true) w h), by decide +kernel, by decide +kernel⟩
theorem cok6 : cokE ("OverInDinghy$Search", xF6, 6) xT6 := ⟨fun w h => xg_of ((by decide +kernel : ∀ w ∈ u_ws "OverInDinghy$Search" xF6 6, w ∈ lw_tbl) w h) ((by decide +kernel : ∀ w ∈ u_ws "OverInDinghy$Search" xF6 6, goodWord w = true) w h), by decide +kernel, by decide +kernel⟩
theorem cok7 : cokE ("OverInDinghy", xF7, 12) xT7 := ⟨fun w h => xg_of ((by decide +kernel : ∀ w ∈ u_ws "OverInDinghy" xF7 12, w ∈ lw_tbl) w h) ((by decide +kernel : ∀ w ∈ u_ws "OverInDinghy" xF7 12, goodWord w = true) w h), by decide +kernel, by decide +kernel⟩
theorem cok8 : cokE ("OverInDinghyModel", xF8, 32) xT8 := ⟨fun w h => xg_of ((by decide +kernel : ∀ w ∈ u_ws "OverInDinghyModel" xF8 32, w ∈ lw_tbl) w h) ((by decide +kernel : ∀ w ∈ u_ws "OverInDinghyModel" xF8 32, goodWord w = true) w h), by decide +kernel, by decide +kernel⟩
theorem xcl_ok : ∀ (ci : Nat) (q : vw_C), xcl[ci]? = some q → cokE q (xty ci) := by
  intro ci q h
  match ci, h with
  | 0, h => cases h; exact cok0
  | 1, h => cases h; exact cok1
  | 2, h => cases h; exact cok2
  | 3, h => cases h; exact cok3
  | 4, h => cases h; exact cok4
  | 5, h => cases h; exact cok5
  | 6, h => cases h; exact cok6
  | 7, h => cases h; exact cok7
  | 8, h => cases h; exact cok8
  | ci + 9, h => simp [xcl] at h
