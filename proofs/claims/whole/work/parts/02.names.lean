def RX0 : String := "StagePair$Books"
def TX0 : u_T := fun k => match k with
  | 0 => ("StagePair$Books", "digits", "[I", true)
  | 1 => ("StagePair$Books", "toldDays", "[I", true)
  | 2 => ("StagePair$Books", "fromDays", "[I", true)
  | 3 => ("StagePair$Books", "dayDigits", "[I", true)
  | 4 => ("StagePair$Books", "dayCount", "I", false)
  | 5 => ("StagePair$Books", "spelledCues", "[I", true)
  | 6 => ("StagePair$Books", "spelledSize", "I", false)
  | 7 => ("StagePair$Books", "listed", "[I", true)
  | 8 => ("StagePair$Books", "listedSizes", "[I", true)
  | 9 => ("StagePair$Books", "listedCount", "I", false)
  | 10 => ("StagePair$Books", "nameCues", "[I", true)
  | _ => ("StagePair$Books", "least", "[I", true)
def tyX0 : Nat → FieldType := fun k => match k with
  | 0 => .array .int
  | 1 => .array .int
  | 2 => .array .int
  | 3 => .array .int
  | 4 => .int
  | 5 => .array .int
  | 6 => .int
  | 7 => .array .int
  | 8 => .array .int
  | 9 => .int
  | 10 => .array .int
  | _ => .array .int
abbrev wsX00 : List Cond := u_ws RX0 TX0 12
theorem nmX0 : ∀ a, a < 12 → ∀ b, b < 12 → a ≠ b → (TX0 a).2.1 ≠ (TX0 b).2.1 := by decide +kernel
theorem tyX0_ok : ∀ k, k < 12 → parseFieldDescriptor (TX0 k).2.2.1 = some (tyX0 k) := by decide +kernel
set_option maxRecDepth 100000 in
theorem inz0 : ∀ w ∈ wsX00, w ∈ lw_tbl := by decide +kernel
def RX1 : String := "StagePair$Cues"
def TX1 : u_T := fun k => match k with
  | 0 => ("StagePair$Cues", "letters", "[I", true)
  | 1 => ("StagePair$Cues", "wordSizes", "[I", true)
  | 2 => ("StagePair$Cues", "followers", "[I", true)
  | 3 => ("StagePair$Cues", "firsts", "I", false)
  | 4 => ("StagePair$Cues", "askedCues", "[I", true)
  | _ => ("StagePair$Cues", "askedCount", "I", false)
def tyX1 : Nat → FieldType := fun k => match k with
  | 0 => .array .int
  | 1 => .array .int
  | 2 => .array .int
  | 3 => .int
  | 4 => .array .int
  | _ => .int
abbrev wsX10 : List Cond := u_ws RX1 TX1 6
theorem nmX1 : ∀ a, a < 6 → ∀ b, b < 6 → a ≠ b → (TX1 a).2.1 ≠ (TX1 b).2.1 := by decide +kernel
theorem tyX1_ok : ∀ k, k < 6 → parseFieldDescriptor (TX1 k).2.2.1 = some (tyX1 k) := by decide +kernel
set_option maxRecDepth 100000 in
theorem inz1 : ∀ w ∈ wsX10, w ∈ lw_tbl := by decide +kernel
def RX2 : String := "StagePair$Lengths"
def TX2 : u_T := fun k => match k with
  | 0 => ("StagePair$Lengths", "trees", "[LStagePair$Shapes;", true)
  | 1 => ("StagePair$Lengths", "taller", "[LStagePair$Shapes;", true)
  | 2 => ("StagePair$Lengths", "sum", "LStagePair$Shapes;", false)
  | 3 => ("StagePair$Lengths", "spareSum", "LStagePair$Shapes;", false)
  | 4 => ("StagePair$Lengths", "seen", "[J", true)
  | 5 => ("StagePair$Lengths", "rulesOfSum", "I", false)
  | 6 => ("StagePair$Lengths", "weights", "[I", true)
  | 7 => ("StagePair$Lengths", "order", "[I", true)
  | 8 => ("StagePair$Lengths", "tried", "[I", true)
  | 9 => ("StagePair$Lengths", "best", "[I", true)
  | 10 => ("StagePair$Lengths", "keptLengths", "[I", true)
  | 11 => ("StagePair$Lengths", "keptCount", "I", false)
  | 12 => ("StagePair$Lengths", "partCosts", "[I", true)
  | 13 => ("StagePair$Lengths", "kinds", "[I", true)
  | _ => ("StagePair$Lengths", "kindsCount", "I", false)
def tyX2 : Nat → FieldType := fun k => match k with
  | 0 => .array (.object "StagePair$Shapes")
  | 1 => .array (.object "StagePair$Shapes")
  | 2 => .object "StagePair$Shapes"
  | 3 => .object "StagePair$Shapes"
  | 4 => .array .long
  | 5 => .int
  | 6 => .array .int
  | 7 => .array .int
  | 8 => .array .int
  | 9 => .array .int
  | 10 => .array .int
  | 11 => .int
  | 12 => .array .int
  | 13 => .array .int
  | _ => .int
abbrev wsX20 : List Cond := u_ws RX2 TX2 15
theorem nmX2 : ∀ a, a < 15 → ∀ b, b < 15 → a ≠ b → (TX2 a).2.1 ≠ (TX2 b).2.1 := by decide +kernel
theorem tyX2_ok : ∀ k, k < 15 → parseFieldDescriptor (TX2 k).2.2.1 = some (tyX2 k) := by decide +kernel
set_option maxRecDepth 100000 in
theorem inz2 : ∀ w ∈ wsX20, w ∈ lw_tbl := by decide +kernel
def RX3 : String := "StagePair$Maker"
def TX3 : u_T := fun k => match k with
  | 0 => ("StagePair$Maker", "slots", "[I", true)
  | 1 => ("StagePair$Maker", "sizes", "[I", true)
  | 2 => ("StagePair$Maker", "row", "[I", true)
  | 3 => ("StagePair$Maker", "rowSize", "I", false)
  | 4 => ("StagePair$Maker", "cueOfWord", "[I", true)
  | 5 => ("StagePair$Maker", "text", "[I", true)
  | _ => ("StagePair$Maker", "textSize", "I", false)
def tyX3 : Nat → FieldType := fun k => match k with
  | 0 => .array .int
  | 1 => .array .int
  | 2 => .array .int
  | 3 => .int
  | 4 => .array .int
  | 5 => .array .int
  | _ => .int
abbrev wsX30 : List Cond := u_ws RX3 TX3 7
theorem nmX3 : ∀ a, a < 7 → ∀ b, b < 7 → a ≠ b → (TX3 a).2.1 ≠ (TX3 b).2.1 := by decide +kernel
theorem tyX3_ok : ∀ k, k < 7 → parseFieldDescriptor (TX3 k).2.2.1 = some (tyX3 k) := by decide +kernel
set_option maxRecDepth 100000 in
theorem inz3 : ∀ w ∈ wsX30, w ∈ lw_tbl := by decide +kernel
def RX4 : String := "StagePair$Manners"
def TX4 : u_T := fun k => match k with
  | 0 => ("StagePair$Manners", "text", "[I", true)
  | 1 => ("StagePair$Manners", "textSize", "I", false)
  | 2 => ("StagePair$Manners", "wordStarts", "[I", true)
  | 3 => ("StagePair$Manners", "wordSizes", "[I", true)
  | 4 => ("StagePair$Manners", "words", "I", false)
  | 5 => ("StagePair$Manners", "tokens", "[I", true)
  | 6 => ("StagePair$Manners", "tokenCount", "I", false)
  | 7 => ("StagePair$Manners", "ruleStarts", "[I", true)
  | 8 => ("StagePair$Manners", "rules", "I", false)
  | 9 => ("StagePair$Manners", "items", "I", false)
  | 10 => ("StagePair$Manners", "state", "I", false)
  | 11 => ("StagePair$Manners", "name", "I", false)
  | 12 => ("StagePair$Manners", "open", "I", false)
  | 13 => ("StagePair$Manners", "place", "I", false)
  | _ => ("StagePair$Manners", "tokenSize", "I", false)
def tyX4 : Nat → FieldType := fun k => match k with
  | 0 => .array .int
  | 1 => .int
  | 2 => .array .int
  | 3 => .array .int
  | 4 => .int
  | 5 => .array .int
  | 6 => .int
  | 7 => .array .int
  | 8 => .int
  | 9 => .int
  | 10 => .int
  | 11 => .int
  | 12 => .int
  | 13 => .int
  | _ => .int
abbrev wsX40 : List Cond := u_ws RX4 TX4 15
theorem nmX4 : ∀ a, a < 15 → ∀ b, b < 15 → a ≠ b → (TX4 a).2.1 ≠ (TX4 b).2.1 := by decide +kernel
theorem tyX4_ok : ∀ k, k < 15 → parseFieldDescriptor (TX4 k).2.2.1 = some (tyX4 k) := by decide +kernel
set_option maxRecDepth 100000 in
theorem inz4 : ∀ w ∈ wsX40, w ∈ lw_tbl := by decide +kernel
def RX5 : String := "StagePair$Shapes"
def TX5 : u_T := fun k => match k with
  | 0 => ("StagePair$Shapes", "codes", "[I", true)
  | _ => ("StagePair$Shapes", "starts", "[I", true)
def tyX5 : Nat → FieldType := fun k => match k with
  | 0 => .array .int
  | _ => .array .int
abbrev wsX50 : List Cond := u_ws RX5 TX5 2
theorem nmX5 : ∀ a, a < 2 → ∀ b, b < 2 → a ≠ b → (TX5 a).2.1 ≠ (TX5 b).2.1 := by decide +kernel
theorem tyX5_ok : ∀ k, k < 2 → parseFieldDescriptor (TX5 k).2.2.1 = some (tyX5 k) := by decide +kernel
set_option maxRecDepth 100000 in
theorem inz5 : ∀ w ∈ wsX50, w ∈ lw_tbl := by decide +kernel
def RX6 : String := "StagePair$Shows"
def TX6 : u_T := fun k => match k with
  | 0 => ("StagePair$Shows", "answers", "[I", true)
  | 1 => ("StagePair$Shows", "firstSteps", "[I", true)
  | 2 => ("StagePair$Shows", "turns", "I", false)
  | 3 => ("StagePair$Shows", "stepTurns", "[I", true)
  | 4 => ("StagePair$Shows", "stepThings", "[I", true)
  | 5 => ("StagePair$Shows", "steps", "I", false)
  | 6 => ("StagePair$Shows", "known", "[I", true)
  | _ => ("StagePair$Shows", "tallies", "[I", true)
def tyX6 : Nat → FieldType := fun k => match k with
  | 0 => .array .int
  | 1 => .array .int
  | 2 => .int
  | 3 => .array .int
  | 4 => .array .int
  | 5 => .int
  | 6 => .array .int
  | _ => .array .int
abbrev wsX60 : List Cond := u_ws RX6 TX6 8
theorem nmX6 : ∀ a, a < 8 → ∀ b, b < 8 → a ≠ b → (TX6 a).2.1 ≠ (TX6 b).2.1 := by decide +kernel
theorem tyX6_ok : ∀ k, k < 8 → parseFieldDescriptor (TX6 k).2.2.1 = some (tyX6 k) := by decide +kernel
set_option maxRecDepth 100000 in
theorem inz6 : ∀ w ∈ wsX60, w ∈ lw_tbl := by decide +kernel
def RX7 : String := "StagePair$Spies"
def TX7 : u_T := fun k => match k with
  | 0 => ("StagePair$Spies", "toldAs", "[I", true)
  | 1 => ("StagePair$Spies", "toldOf", "[I", true)
  | 2 => ("StagePair$Spies", "nights", "I", false)
  | 3 => ("StagePair$Spies", "most", "I", false)
  | 4 => ("StagePair$Spies", "bookCounts", "[I", true)
  | 5 => ("StagePair$Spies", "ahead", "[I", true)
  | 6 => ("StagePair$Spies", "behind", "[I", true)
  | 7 => ("StagePair$Spies", "setSizes", "[I", true)
  | 8 => ("StagePair$Spies", "sets", "[J", true)
  | _ => ("StagePair$Spies", "fewSet", "J", false)
def tyX7 : Nat → FieldType := fun k => match k with
  | 0 => .array .int
  | 1 => .array .int
  | 2 => .int
  | 3 => .int
  | 4 => .array .int
  | 5 => .array .int
  | 6 => .array .int
  | 7 => .array .int
  | 8 => .array .long
  | _ => .long
abbrev wsX70 : List Cond := u_ws RX7 TX7 10
theorem nmX7 : ∀ a, a < 10 → ∀ b, b < 10 → a ≠ b → (TX7 a).2.1 ≠ (TX7 b).2.1 := by decide +kernel
theorem tyX7_ok : ∀ k, k < 10 → parseFieldDescriptor (TX7 k).2.2.1 = some (tyX7 k) := by decide +kernel
set_option maxRecDepth 100000 in
theorem inz7 : ∀ w ∈ wsX70, w ∈ lw_tbl := by decide +kernel
def RX8 : String := "StagePair$Tape"
def TX8 : u_T := fun k => match k with
  | 0 => ("StagePair$Tape", "bytes", "[I", true)
  | 1 => ("StagePair$Tape", "wordStarts", "[I", true)
  | 2 => ("StagePair$Tape", "wordSizes", "[I", true)
  | 3 => ("StagePair$Tape", "size", "I", false)
  | _ => ("StagePair$Tape", "words", "I", false)
def tyX8 : Nat → FieldType := fun k => match k with
  | 0 => .array .int
  | 1 => .array .int
  | 2 => .array .int
  | 3 => .int
  | _ => .int
abbrev wsX80 : List Cond := u_ws RX8 TX8 5
theorem nmX8 : ∀ a, a < 5 → ∀ b, b < 5 → a ≠ b → (TX8 a).2.1 ≠ (TX8 b).2.1 := by decide +kernel
theorem tyX8_ok : ∀ k, k < 5 → parseFieldDescriptor (TX8 k).2.2.1 = some (tyX8 k) := by decide +kernel
set_option maxRecDepth 100000 in
theorem inz8 : ∀ w ∈ wsX80, w ∈ lw_tbl := by decide +kernel
def RX9 : String := "StagePair$Things"
def TX9 : u_T := fun k => match k with
  | 0 => ("StagePair$Things", "likes", "[I", true)
  | 1 => ("StagePair$Things", "rowSizes", "[I", true)
  | 2 => ("StagePair$Things", "rows", "[I", true)
  | 3 => ("StagePair$Things", "size", "I", false)
  | 4 => ("StagePair$Things", "tried", "[I", true)
  | 5 => ("StagePair$Things", "lostOdds", "[I", true)
  | 6 => ("StagePair$Things", "mistakenOdds", "[I", true)
  | 7 => ("StagePair$Things", "chances", "[J", true)
  | 8 => ("StagePair$Things", "bestWeight", "J", false)
  | _ => ("StagePair$Things", "allWeight", "J", false)
def tyX9 : Nat → FieldType := fun k => match k with
  | 0 => .array .int
  | 1 => .array .int
  | 2 => .array .int
  | 3 => .int
  | 4 => .array .int
  | 5 => .array .int
  | 6 => .array .int
  | 7 => .array .long
  | 8 => .long
  | _ => .long
abbrev wsX90 : List Cond := u_ws RX9 TX9 10
theorem nmX9 : ∀ a, a < 10 → ∀ b, b < 10 → a ≠ b → (TX9 a).2.1 ≠ (TX9 b).2.1 := by decide +kernel
theorem tyX9_ok : ∀ k, k < 10 → parseFieldDescriptor (TX9 k).2.2.1 = some (tyX9 k) := by decide +kernel
set_option maxRecDepth 100000 in
theorem inz9 : ∀ w ∈ wsX90, w ∈ lw_tbl := by decide +kernel
def RX10 : String := "StagePair$Ways"
def TX10 : u_T := fun k => match k with
  | 0 => ("StagePair$Ways", "here", "[J", true)
  | 1 => ("StagePair$Ways", "done", "[J", true)
  | 2 => ("StagePair$Ways", "product", "[J", true)
  | 3 => ("StagePair$Ways", "numbers", "[J", true)
  | 4 => ("StagePair$Ways", "isCounted", "Z", false)
  | 5 => ("StagePair$Ways", "wordPlaces", "[J", true)
  | 6 => ("StagePair$Ways", "ends", "[J", true)
  | 7 => ("StagePair$Ways", "hereBits", "[J", true)
  | _ => ("StagePair$Ways", "doneBits", "[J", true)
def tyX10 : Nat → FieldType := fun k => match k with
  | 0 => .array .long
  | 1 => .array .long
  | 2 => .array .long
  | 3 => .array .long
  | 4 => .boolean
  | 5 => .array .long
  | 6 => .array .long
  | 7 => .array .long
  | _ => .array .long
abbrev wsX100 : List Cond := u_ws RX10 TX10 9
theorem nmX10 : ∀ a, a < 9 → ∀ b, b < 9 → a ≠ b → (TX10 a).2.1 ≠ (TX10 b).2.1 := by decide +kernel
theorem tyX10_ok : ∀ k, k < 9 → parseFieldDescriptor (TX10 k).2.2.1 = some (tyX10 k) := by decide +kernel
set_option maxRecDepth 100000 in
theorem inz10 : ∀ w ∈ wsX100, w ∈ lw_tbl := by decide +kernel
def RX11 : String := "StagePair"
def TX11 : u_T := fun k => match k with
  | 0 => ("StagePair", "tape", "LStagePair$Tape;", true)
  | 1 => ("StagePair", "cues", "LStagePair$Cues;", true)
  | 2 => ("StagePair", "books", "LStagePair$Books;", true)
  | 3 => ("StagePair", "things", "LStagePair$Things;", true)
  | 4 => ("StagePair", "lengths", "LStagePair$Lengths;", true)
  | 5 => ("StagePair", "spies", "LStagePair$Spies;", true)
  | 6 => ("StagePair", "ways", "LStagePair$Ways;", true)
  | 7 => ("StagePair", "shows", "LStagePair$Shows;", true)
  | 8 => ("StagePair", "kept", "LStagePair$Manners;", false)
  | 9 => ("StagePair", "spare", "LStagePair$Manners;", false)
  | 10 => ("StagePair", "maker", "LStagePair$Maker;", false)
  | 11 => ("StagePair", "faultKind", "I", false)
  | _ => ("StagePair", "faultPlace", "I", false)
def tyX11 : Nat → FieldType := fun k => match k with
  | 0 => .object "StagePair$Tape"
  | 1 => .object "StagePair$Cues"
  | 2 => .object "StagePair$Books"
  | 3 => .object "StagePair$Things"
  | 4 => .object "StagePair$Lengths"
  | 5 => .object "StagePair$Spies"
  | 6 => .object "StagePair$Ways"
  | 7 => .object "StagePair$Shows"
  | 8 => .object "StagePair$Manners"
  | 9 => .object "StagePair$Manners"
  | 10 => .object "StagePair$Maker"
  | 11 => .int
  | _ => .int
abbrev wsX110 : List Cond := u_ws RX11 TX11 13
theorem nmX11 : ∀ a, a < 13 → ∀ b, b < 13 → a ≠ b → (TX11 a).2.1 ≠ (TX11 b).2.1 := by decide +kernel
theorem tyX11_ok : ∀ k, k < 13 → parseFieldDescriptor (TX11 k).2.2.1 = some (tyX11 k) := by decide +kernel
set_option maxRecDepth 100000 in
theorem inz11 : ∀ w ∈ wsX110, w ∈ lw_tbl := by decide +kernel
def RX12 : String := "StagePairModel"
def TX12 : u_T := fun k => match k with
  | 0 => ("StagePairModel", "tape", "[B", true)
  | 1 => ("StagePairModel", "taped", "I", false)
  | 2 => ("StagePairModel", "words", "[B", true)
  | 3 => ("StagePairModel", "wordSize", "[I", true)
  | 4 => ("StagePairModel", "digit", "[I", true)
  | 5 => ("StagePairModel", "isFirst", "[Z", true)
  | 6 => ("StagePairModel", "mayStand", "[Z", true)
  | 7 => ("StagePairModel", "heardCue", "[I", true)
  | 8 => ("StagePairModel", "draft", "[I", true)
  | 9 => ("StagePairModel", "heardMany", "I", false)
  | 10 => ("StagePairModel", "hasAsked", "Z", false)
  | 11 => ("StagePairModel", "things", "I", false)
  | 12 => ("StagePairModel", "like", "[I", true)
  | 13 => ("StagePairModel", "rows", "[I", true)
  | 14 => ("StagePairModel", "rowSize", "[I", true)
  | 15 => ("StagePairModel", "coughed", "[I", true)
  | 16 => ("StagePairModel", "shapes", "[I", true)
  | 17 => ("StagePairModel", "shapeAt", "[I", true)
  | 18 => ("StagePairModel", "shapeMany", "I", false)
  | 19 => ("StagePairModel", "can", "[Z", true)
  | 20 => ("StagePairModel", "sum", "[Z", true)
  | 21 => ("StagePairModel", "more", "[Z", true)
  | 22 => ("StagePairModel", "lengths", "[I", true)
  | 23 => ("StagePairModel", "tried", "[I", true)
  | 24 => ("StagePairModel", "best", "[I", true)
  | 25 => ("StagePairModel", "often", "[I", true)
  | 26 => ("StagePairModel", "kinds", "[I", true)
  | 27 => ("StagePairModel", "nights", "I", false)
  | 28 => ("StagePairModel", "bad", "I", false)
  | 29 => ("StagePairModel", "times", "[I", true)
  | 30 => ("StagePairModel", "fitMany", "I", false)
  | 31 => ("StagePairModel", "order", "[I", true)
  | 32 => ("StagePairModel", "seen", "[I", true)
  | 33 => ("StagePairModel", "fewMany", "[I", true)
  | 34 => ("StagePairModel", "fewSet", "[J", true)
  | 35 => ("StagePairModel", "toldFew", "J", false)
  | 36 => ("StagePairModel", "newOrder", "[I", true)
  | 37 => ("StagePairModel", "fewest", "I", false)
  | 38 => ("StagePairModel", "spelledCue", "[I", true)
  | 39 => ("StagePairModel", "spelledMany", "I", false)
  | 40 => ("StagePairModel", "listed", "I", false)
  | 41 => ("StagePairModel", "listText", "[B", true)
  | 42 => ("StagePairModel", "listSize", "[I", true)
  | 43 => ("StagePairModel", "dist", "[I", true)
  | 44 => ("StagePairModel", "lostBy", "[I", true)
  | 45 => ("StagePairModel", "asBy", "[I", true)
  | 46 => ("StagePairModel", "ways", "[J", true)
  | 47 => ("StagePairModel", "dayBooks", "I", false)
  | 48 => ("StagePairModel", "toldOn", "[I", true)
  | 49 => ("StagePairModel", "fromDay", "[I", true)
  | 50 => ("StagePairModel", "dayDigit", "[I", true)
  | 51 => ("StagePairModel", "turnMany", "I", false)
  | 52 => ("StagePairModel", "steps", "I", false)
  | 53 => ("StagePairModel", "stepTurn", "[I", true)
  | 54 => ("StagePairModel", "stepThing", "[I", true)
  | 55 => ("StagePairModel", "turnStep", "[I", true)
  | 56 => ("StagePairModel", "answer", "[I", true)
  | 57 => ("StagePairModel", "itemKind", "[I", true)
  | 58 => ("StagePairModel", "itemRef", "[I", true)
  | 59 => ("StagePairModel", "itemNext", "[I", true)
  | 60 => ("StagePairModel", "itemText", "[B", true)
  | 61 => ("StagePairModel", "itemSize", "[I", true)
  | 62 => ("StagePairModel", "lineItem", "[I", true)
  | 63 => ("StagePairModel", "lineNext", "[I", true)
  | 64 => ("StagePairModel", "ruleLine", "[I", true)
  | 65 => ("StagePairModel", "hasRule", "[Z", true)
  | 66 => ("StagePairModel", "items", "I", false)
  | 67 => ("StagePairModel", "lines", "I", false)
  | 68 => ("StagePairModel", "sort", "I", false)
  | 69 => ("StagePairModel", "what", "I", false)
  | 70 => ("StagePairModel", "at", "I", false)
  | 71 => ("StagePairModel", "end", "I", false)
  | 72 => ("StagePairModel", "size", "I", false)
  | 73 => ("StagePairModel", "faultKind", "I", false)
  | 74 => ("StagePairModel", "faultPlace", "I", false)
  | 75 => ("StagePairModel", "saidAt", "[I", true)
  | 76 => ("StagePairModel", "saidSize", "[I", true)
  | 77 => ("StagePairModel", "said", "I", false)
  | 78 => ("StagePairModel", "ends", "[J", true)
  | 79 => ("StagePairModel", "counts", "[J", true)
  | 80 => ("StagePairModel", "tables", "[I", true)
  | 81 => ("StagePairModel", "wanted", "[I", true)
  | 82 => ("StagePairModel", "wantedMany", "I", false)
  | 83 => ("StagePairModel", "madeText", "[B", true)
  | _ => ("StagePairModel", "madeSize", "I", false)
def tyX12 : Nat → FieldType := fun k => match k with
  | 0 => .array .byte
  | 1 => .int
  | 2 => .array .byte
  | 3 => .array .int
  | 4 => .array .int
  | 5 => .array .boolean
  | 6 => .array .boolean
  | 7 => .array .int
  | 8 => .array .int
  | 9 => .int
  | 10 => .boolean
  | 11 => .int
  | 12 => .array .int
  | 13 => .array .int
  | 14 => .array .int
  | 15 => .array .int
  | 16 => .array .int
  | 17 => .array .int
  | 18 => .int
  | 19 => .array .boolean
  | 20 => .array .boolean
  | 21 => .array .boolean
  | 22 => .array .int
  | 23 => .array .int
  | 24 => .array .int
  | 25 => .array .int
  | 26 => .array .int
  | 27 => .int
  | 28 => .int
  | 29 => .array .int
  | 30 => .int
  | 31 => .array .int
  | 32 => .array .int
  | 33 => .array .int
  | 34 => .array .long
  | 35 => .long
  | 36 => .array .int
  | 37 => .int
  | 38 => .array .int
  | 39 => .int
  | 40 => .int
  | 41 => .array .byte
  | 42 => .array .int
  | 43 => .array .int
  | 44 => .array .int
  | 45 => .array .int
  | 46 => .array .long
  | 47 => .int
  | 48 => .array .int
  | 49 => .array .int
  | 50 => .array .int
  | 51 => .int
  | 52 => .int
  | 53 => .array .int
  | 54 => .array .int
  | 55 => .array .int
  | 56 => .array .int
  | 57 => .array .int
  | 58 => .array .int
  | 59 => .array .int
  | 60 => .array .byte
  | 61 => .array .int
  | 62 => .array .int
  | 63 => .array .int
  | 64 => .array .int
  | 65 => .array .boolean
  | 66 => .int
  | 67 => .int
  | 68 => .int
  | 69 => .int
  | 70 => .int
  | 71 => .int
  | 72 => .int
  | 73 => .int
  | 74 => .int
  | 75 => .array .int
  | 76 => .array .int
  | 77 => .int
  | 78 => .array .long
  | 79 => .array .long
  | 80 => .array .int
  | 81 => .array .int
  | 82 => .int
  | 83 => .array .byte
  | _ => .int
abbrev wsX120 : List Cond := u_ws RX12 TX12 85
theorem nmX12 : ∀ a, a < 85 → ∀ b, b < 85 → a ≠ b → (TX12 a).2.1 ≠ (TX12 b).2.1 := by decide +kernel
theorem tyX12_ok : ∀ k, k < 85 → parseFieldDescriptor (TX12 k).2.2.1 = some (tyX12 k) := by decide +kernel
set_option maxRecDepth 100000 in
theorem inz12 : ∀ w ∈ wsX120, w ∈ lw_tbl := by decide +kernel
abbrev zcl : List vw_C := [(RX0, TX0, 12), (RX1, TX1, 6), (RX2, TX2, 15), (RX3, TX3, 7), (RX4, TX4, 15), (RX5, TX5, 2), (RX6, TX6, 8), (RX7, TX7, 10), (RX8, TX8, 5), (RX9, TX9, 10), (RX10, TX10, 9), (RX11, TX11, 13), (RX12, TX12, 85)]
