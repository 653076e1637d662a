/-! ===== THE TABLES OF THIS CLAIM, written by wip/gen/emit_tables.py out of claim/Statement.lean: classes, objects, methods, links ===== -/
def uT0 : u_T := fun k => match k with
  | 0 => ("RubberHall", "tape", "LRubberHall$Tape;", true)
  | 1 => ("RubberHall", "house", "LRubberHall$House;", true)
  | 2 => ("RubberHall", "spare", "LRubberHall$House;", true)
  | 3 => ("RubberHall", "rules", "LRubberHall$RuleReader;", true)
  | 4 => ("RubberHall", "sheets", "LRubberHall$Sheets;", true)
  | 5 => ("RubberHall", "image", "LRubberHall$Sheets;", true)
  | 6 => ("RubberHall", "sieve", "LRubberHall$Sieve;", true)
  | 7 => ("RubberHall", "head", "LRubberHall$Head;", true)
  | 8 => ("RubberHall", "ways", "LRubberHall$Ways;", true)
  | 9 => ("RubberHall", "status", "[I", true)
  | 10 => ("RubberHall", "shownForetold", "[I", true)
  | 11 => ("RubberHall", "shownByLaw", "[I", true)
  | 12 => ("RubberHall", "credits", "[I", true)
  | 13 => ("RubberHall", "fits", "[I", true)
  | 14 => ("RubberHall", "found", "[I", true)
  | 15 => ("RubberHall", "imageKept", "Z", false)
  | _ => ("RubberHall", "faultPlace", "I", false)
def uY0 : Nat → FieldType := fun k => match k with
  | 0 => .object "RubberHall$Tape"
  | 1 => .object "RubberHall$House"
  | 2 => .object "RubberHall$House"
  | 3 => .object "RubberHall$RuleReader"
  | 4 => .object "RubberHall$Sheets"
  | 5 => .object "RubberHall$Sheets"
  | 6 => .object "RubberHall$Sieve"
  | 7 => .object "RubberHall$Head"
  | 8 => .object "RubberHall$Ways"
  | 9 => .array .int
  | 10 => .array .int
  | 11 => .array .int
  | 12 => .array .int
  | 13 => .array .int
  | 14 => .array .int
  | 15 => .boolean
  | _ => .int
theorem uN0 : ∀ a, a < 17 → ∀ b, b < 17 → a ≠ b → (uT0 a).2.1 ≠ (uT0 b).2.1 := by decide +kernel
theorem uP0 : ∀ k, k < 17 → parseFieldDescriptor (uT0 k).2.2.1 = some (uY0 k) := by decide +kernel
def uT1 : u_T := fun k => match k with
  | 0 => ("RubberHall$Tape", "bytes", "[B", true)
  | 1 => ("RubberHall$Tape", "size", "I", false)
  | 2 => ("RubberHall$Tape", "fault", "I", false)
  | 3 => ("RubberHall$Tape", "place", "I", false)
  | 4 => ("RubberHall$Tape", "kind", "I", false)
  | 5 => ("RubberHall$Tape", "number", "I", false)
  | 6 => ("RubberHall$Tape", "length", "I", false)
  | _ => ("RubberHall$Tape", "end", "I", false)
def uY1 : Nat → FieldType := fun k => match k with
  | 0 => .array .byte
  | 1 => .int
  | 2 => .int
  | 3 => .int
  | 4 => .int
  | 5 => .int
  | 6 => .int
  | _ => .int
theorem uN1 : ∀ a, a < 8 → ∀ b, b < 8 → a ≠ b → (uT1 a).2.1 ≠ (uT1 b).2.1 := by decide +kernel
theorem uP1 : ∀ k, k < 8 → parseFieldDescriptor (uT1 k).2.2.1 = some (uY1 k) := by decide +kernel
def uT2 : u_T := fun k => match k with
  | 0 => ("RubberHall$House", "many", "[I", true)
  | 1 => ("RubberHall$House", "numbers", "[I", true)
  | 2 => ("RubberHall$House", "steps", "[I", true)
  | _ => ("RubberHall$House", "stepsEnd", "I", false)
def uY2 : Nat → FieldType := fun k => match k with
  | 0 => .array .int
  | 1 => .array .int
  | 2 => .array .int
  | _ => .int
theorem uN2 : ∀ a, a < 4 → ∀ b, b < 4 → a ≠ b → (uT2 a).2.1 ≠ (uT2 b).2.1 := by decide +kernel
theorem uP2 : ∀ k, k < 4 → parseFieldDescriptor (uT2 k).2.2.1 = some (uY2 k) := by decide +kernel
def uT3 : u_T := fun k => match k with
  | 0 => ("RubberHall$RuleReader", "pending", "[I", true)
  | 1 => ("RubberHall$RuleReader", "pendingEnd", "I", false)
  | 2 => ("RubberHall$RuleReader", "within", "I", false)
  | 3 => ("RubberHall$RuleReader", "nots", "I", false)
  | 4 => ("RubberHall$RuleReader", "operandIsDue", "Z", false)
  | _ => ("RubberHall$RuleReader", "notMayStand", "Z", false)
def uY3 : Nat → FieldType := fun k => match k with
  | 0 => .array .int
  | 1 => .int
  | 2 => .int
  | 3 => .int
  | 4 => .boolean
  | _ => .boolean
theorem uN3 : ∀ a, a < 6 → ∀ b, b < 6 → a ≠ b → (uT3 a).2.1 ≠ (uT3 b).2.1 := by decide +kernel
theorem uP3 : ∀ k, k < 6 → parseFieldDescriptor (uT3 k).2.2.1 = some (uY3 k) := by decide +kernel
def uT4 : u_T := fun k => match k with
  | 0 => ("RubberHall$Sheets", "numbers", "[I", true)
  | _ => ("RubberHall$Sheets", "many", "I", false)
def uY4 : Nat → FieldType := fun k => match k with
  | 0 => .array .int
  | _ => .int
theorem uN4 : ∀ a, a < 2 → ∀ b, b < 2 → a ≠ b → (uT4 a).2.1 ≠ (uT4 b).2.1 := by decide +kernel
theorem uP4 : ∀ k, k < 2 → parseFieldDescriptor (uT4 k).2.2.1 = some (uY4 k) := by decide +kernel
def uT5 : u_T := fun k => match k with
  | 0 => ("RubberHall$Sieve", "off", "[I", true)
  | 1 => ("RubberHall$Sieve", "felt", "[I", true)
  | 2 => ("RubberHall$Sieve", "said", "[I", true)
  | 3 => ("RubberHall$Sieve", "saidByPerson", "[I", true)
  | 4 => ("RubberHall$Sieve", "values", "[I", true)
  | 5 => ("RubberHall$Sieve", "stack", "[I", true)
  | _ => ("RubberHall$Sieve", "counting", "I", false)
def uY5 : Nat → FieldType := fun k => match k with
  | 0 => .array .int
  | 1 => .array .int
  | 2 => .array .int
  | 3 => .array .int
  | 4 => .array .int
  | 5 => .array .int
  | _ => .int
theorem uN5 : ∀ a, a < 7 → ∀ b, b < 7 → a ≠ b → (uT5 a).2.1 ≠ (uT5 b).2.1 := by decide +kernel
theorem uP5 : ∀ k, k < 7 → parseFieldDescriptor (uT5 k).2.2.1 = some (uY5 k) := by decide +kernel
def uT6 : u_T := fun k => match k with
  | 0 => ("RubberHall$Head", "sight", "I", false)
  | 1 => ("RubberHall$Head", "joint", "I", false)
  | 2 => ("RubberHall$Head", "touch", "I", false)
  | 3 => ("RubberHall$Head", "leans", "I", false)
  | 4 => ("RubberHall$Head", "yes", "I", false)
  | 5 => ("RubberHall$Head", "wish", "I", false)
  | 6 => ("RubberHall$Head", "far", "I", false)
  | 7 => ("RubberHall$Head", "late", "I", false)
  | 8 => ("RubberHall$Head", "way", "I", false)
  | 9 => ("RubberHall$Head", "thing", "I", false)
  | 10 => ("RubberHall$Head", "told", "I", false)
  | 11 => ("RubberHall$Head", "strokes", "I", false)
  | 12 => ("RubberHall$Head", "kind", "I", false)
  | 13 => ("RubberHall$Head", "two", "I", false)
  | 14 => ("RubberHall$Head", "turn", "I", false)
  | 15 => ("RubberHall$Head", "shape", "I", false)
  | _ => ("RubberHall$Head", "held", "I", false)
def uY6 : Nat → FieldType := fun k => match k with
  | 0 => .int
  | 1 => .int
  | 2 => .int
  | 3 => .int
  | 4 => .int
  | 5 => .int
  | 6 => .int
  | 7 => .int
  | 8 => .int
  | 9 => .int
  | 10 => .int
  | 11 => .int
  | 12 => .int
  | 13 => .int
  | 14 => .int
  | 15 => .int
  | _ => .int
theorem uN6 : ∀ a, a < 17 → ∀ b, b < 17 → a ≠ b → (uT6 a).2.1 ≠ (uT6 b).2.1 := by decide +kernel
theorem uP6 : ∀ k, k < 17 → parseFieldDescriptor (uT6 k).2.2.1 = some (uY6 k) := by decide +kernel
def uT7 : u_T := fun k => match k with
  | 0 => ("RubberHall$Ways", "numbers", "[I", true)
  | _ => ("RubberHall$Ways", "many", "I", false)
def uY7 : Nat → FieldType := fun k => match k with
  | 0 => .array .int
  | _ => .int
theorem uN7 : ∀ a, a < 2 → ∀ b, b < 2 → a ≠ b → (uT7 a).2.1 ≠ (uT7 b).2.1 := by decide +kernel
theorem uP7 : ∀ k, k < 2 → parseFieldDescriptor (uT7 k).2.2.1 = some (uY7 k) := by decide +kernel
def uT8 : u_T := fun k => match k with
  | 0 => ("RubberHallModel", "thrown", "I", false)
  | 1 => ("RubberHallModel", "people", "I", false)
  | 2 => ("RubberHallModel", "sittings", "I", false)
  | 3 => ("RubberHallModel", "laws", "I", false)
  | 4 => ("RubberHallModel", "lines", "I", false)
  | 5 => ("RubberHallModel", "rules", "I", false)
  | 6 => ("RubberHallModel", "person", "[I", true)
  | 7 => ("RubberHallModel", "sitting", "[I", true)
  | 8 => ("RubberHallModel", "law", "[I", true)
  | 9 => ("RubberHallModel", "ruleAt", "[I", true)
  | 10 => ("RubberHallModel", "code", "[I", true)
  | 11 => ("RubberHallModel", "said", "[Z", true)
  | 12 => ("RubberHallModel", "sheets", "I", false)
  | 13 => ("RubberHallModel", "sheet", "[I", true)
  | 14 => ("RubberHallModel", "tape", "[I", true)
  | 15 => ("RubberHallModel", "taped", "I", false)
  | 16 => ("RubberHallModel", "faultKind", "I", false)
  | 17 => ("RubberHallModel", "faultPlace", "I", false)
  | 18 => ("RubberHallModel", "size", "I", false)
  | 19 => ("RubberHallModel", "next", "I", false)
  | 20 => ("RubberHallModel", "sort", "I", false)
  | 21 => ("RubberHallModel", "place", "I", false)
  | 22 => ("RubberHallModel", "long0", "I", false)
  | 23 => ("RubberHallModel", "value", "I", false)
  | 24 => ("RubberHallModel", "sign", "I", false)
  | 25 => ("RubberHallModel", "word", "J", false)
  | 26 => ("RubberHallModel", "newPeople", "I", false)
  | 27 => ("RubberHallModel", "newSittings", "I", false)
  | 28 => ("RubberHallModel", "newLaws", "I", false)
  | 29 => ("RubberHallModel", "newLines", "I", false)
  | 30 => ("RubberHallModel", "newRules", "I", false)
  | 31 => ("RubberHallModel", "top", "I", false)
  | 32 => ("RubberHallModel", "waiting", "I", false)
  | 33 => ("RubberHallModel", "depth", "I", false)
  | 34 => ("RubberHallModel", "newPerson", "[I", true)
  | 35 => ("RubberHallModel", "newSitting", "[I", true)
  | 36 => ("RubberHallModel", "newLaw", "[I", true)
  | 37 => ("RubberHallModel", "newRuleAt", "[I", true)
  | 38 => ("RubberHallModel", "read", "[I", true)
  | 39 => ("RubberHallModel", "waits", "[I", true)
  | 40 => ("RubberHallModel", "newSaid", "[Z", true)
  | 41 => ("RubberHallModel", "tested", "[Z", true)
  | 42 => ("RubberHallModel", "head", "[I", true)
  | 43 => ("RubberHallModel", "seat", "[I", true)
  | 44 => ("RubberHallModel", "refused", "[I", true)
  | 45 => ("RubberHallModel", "cold", "[I", true)
  | 46 => ("RubberHallModel", "isCold", "[Z", true)
  | 47 => ("RubberHallModel", "pile", "[I", true)
  | 48 => ("RubberHallModel", "seed", "I", false)
  | 49 => ("RubberHallModel", "counted", "I", false)
  | 50 => ("RubberHallModel", "counts", "[I", true)
  | 51 => ("RubberHallModel", "credit", "[J", true)
  | 52 => ("RubberHallModel", "both", "[I", true)
  | 53 => ("RubberHallModel", "numbers", "[I", true)
  | 54 => ("RubberHallModel", "imaged", "I", false)
  | 55 => ("RubberHallModel", "imageOf", "[I", true)
  | 56 => ("RubberHallModel", "imageCold", "[I", true)
  | _ => ("RubberHallModel", "imageIsCold", "[Z", true)
def uY8 : Nat → FieldType := fun k => match k with
  | 0 => .int
  | 1 => .int
  | 2 => .int
  | 3 => .int
  | 4 => .int
  | 5 => .int
  | 6 => .array .int
  | 7 => .array .int
  | 8 => .array .int
  | 9 => .array .int
  | 10 => .array .int
  | 11 => .array .boolean
  | 12 => .int
  | 13 => .array .int
  | 14 => .array .int
  | 15 => .int
  | 16 => .int
  | 17 => .int
  | 18 => .int
  | 19 => .int
  | 20 => .int
  | 21 => .int
  | 22 => .int
  | 23 => .int
  | 24 => .int
  | 25 => .long
  | 26 => .int
  | 27 => .int
  | 28 => .int
  | 29 => .int
  | 30 => .int
  | 31 => .int
  | 32 => .int
  | 33 => .int
  | 34 => .array .int
  | 35 => .array .int
  | 36 => .array .int
  | 37 => .array .int
  | 38 => .array .int
  | 39 => .array .int
  | 40 => .array .boolean
  | 41 => .array .boolean
  | 42 => .array .int
  | 43 => .array .int
  | 44 => .array .int
  | 45 => .array .int
  | 46 => .array .boolean
  | 47 => .array .int
  | 48 => .int
  | 49 => .int
  | 50 => .array .int
  | 51 => .array .long
  | 52 => .array .int
  | 53 => .array .int
  | 54 => .int
  | 55 => .array .int
  | 56 => .array .int
  | _ => .array .boolean
theorem uN8 : ∀ a, a < 58 → ∀ b, b < 58 → a ≠ b → (uT8 a).2.1 ≠ (uT8 b).2.1 := by decide +kernel
theorem uP8 : ∀ k, k < 58 → parseFieldDescriptor (uT8 k).2.2.1 = some (uY8 k) := by decide +kernel
abbrev tCl : List vw_C := [("RubberHall", uT0, 17), ("RubberHall$Tape", uT1, 8), ("RubberHall$House", uT2, 4), ("RubberHall$RuleReader", uT3, 6), ("RubberHall$Sheets", uT4, 2), ("RubberHall$Sieve", uT5, 7), ("RubberHall$Head", uT6, 17), ("RubberHall$Ways", uT7, 2), ("RubberHallModel", uT8, 58)]
def tcN (i : Nat) : String := (["RubberHall", "RubberHall$Tape", "RubberHall$House", "RubberHall$RuleReader", "RubberHall$Sheets", "RubberHall$Sieve", "RubberHall$Head", "RubberHall$Ways", "RubberHallModel"] : List String).getD i "java/lang/String"
def tcn (i : Nat) : String := (["RubberHall", "RubberHall$Tape", "RubberHallModel", "RubberHallLaw", "java/lang/String", "java/lang/StringLatin1", "java/lang/Math", "RubberHall$HouseReader", "RubberHall$House", "jdk/internal/util/Preconditions", "RubberHall$RuleReader", "RubberHall$SheetReader", "RubberHall$Sheets", "RubberHall$Sieve", "RubberHall$Head", "RubberHall$Ways"] : List String).getD i ""
def tfn (c k : Nat) : String × String × String := match k with
  | 0 => ("java/lang/String", "value", "[B")
  | _ => ("java/lang/String", "coder", "B")
def tkL : List aKd := [
  .inr (.inl (0, [.inl 1, .inl 3, .inl 7, .inl 11, .inl 13, .inl 15, .inl 17, .inl 24, .inl 25, .inl 27, .inl 28, .inl 29, .inl 30, .inl 31, .inl 32, .inr 2, .inr 0])),
  .inr (.inl (1, [.inl 2, .inr 0, .inr 0, .inr 0, .inr 0, .inr 0, .inr 0, .inr 0])),
  .inl (1, 700),
  .inr (.inl (2, [.inl 4, .inl 5, .inl 6, .inr 0])),
  .inl (0, 5),
  .inl (0, 286),
  .inl (0, 700),
  .inr (.inl (2, [.inl 8, .inl 9, .inl 10, .inr 0])),
  .inl (0, 5),
  .inl (0, 286),
  .inl (0, 700),
  .inr (.inl (3, [.inl 12, .inr 0, .inr 0, .inr 0, .inr 2, .inr 2])),
  .inl (0, 128),
  .inr (.inl (4, [.inl 14, .inr 0])),
  .inl (0, 1080),
  .inr (.inl (4, [.inl 16, .inr 0])),
  .inl (0, 1080),
  .inr (.inl (5, [.inl 18, .inl 19, .inl 20, .inl 21, .inl 22, .inl 23, .inr 0])),
  .inl (0, 60),
  .inl (0, 60),
  .inl (0, 60),
  .inl (0, 20),
  .inl (0, 12),
  .inl (0, 64),
  .inr (.inl (6, [.inr 0, .inr 0, .inr 0, .inr 0, .inr 0, .inr 0, .inr 0, .inr 0, .inr 0, .inr 0, .inr 0, .inr 0, .inr 0, .inr 0, .inr 0, .inr 0, .inr 0])),
  .inr (.inl (7, [.inl 26, .inr 0])),
  .inl (0, 20),
  .inl (0, 3),
  .inl (0, 60),
  .inl (0, 120),
  .inl (0, 6),
  .inl (0, 6),
  .inl (0, 41),
  .inr (.inl (8, [.inr 0, .inr 0, .inr 0, .inr 0, .inr 0, .inr 0, .inl 34, .inl 35, .inl 36, .inl 37, .inl 38, .inl 39, .inr 0, .inl 40, .inl 41, .inr 0, .inr 0, .inr 0, .inr 0, .inr 0, .inr 0, .inr 0, .inr 0, .inr 0, .inr 0, .inr 1, .inr 0, .inr 0, .inr 0, .inr 0, .inr 0, .inr 0, .inr 0, .inr 0, .inl 42, .inl 43, .inl 44, .inl 45, .inl 46, .inl 47, .inl 48, .inl 49, .inl 50, .inl 51, .inl 52, .inl 53, .inl 54, .inl 55, .inr 0, .inr 0, .inl 56, .inl 57, .inl 58, .inl 59, .inr 0, .inl 60, .inl 61, .inl 62])),
  .inl (0, 120),
  .inl (0, 120),
  .inl (0, 30),
  .inl (0, 4),
  .inl (0, 1200),
  .inl (2, 12),
  .inl (0, 1020),
  .inl (0, 700),
  .inl (0, 120),
  .inl (0, 120),
  .inl (0, 30),
  .inl (0, 4),
  .inl (0, 1200),
  .inl (0, 720),
  .inl (2, 12),
  .inl (2, 9),
  .inl (0, 6),
  .inl (0, 6),
  .inl (0, 3),
  .inl (0, 60),
  .inl (2, 60),
  .inl (0, 720),
  .inl (0, 60),
  .inl (3, 6),
  .inl (0, 20),
  .inl (0, 41),
  .inl (0, 1020),
  .inl (0, 60),
  .inl (2, 60),
  .inl (3, 1),
  .inr (.inr (.inl (0, 5, fun k => ([0, 120, 240, 270, 282] : List Int32).getD k 0))),
  .inr (.inr (.inl (0, 5, fun k => ([20, 20, 6, 12, 4] : List Int32).getD k 0))),
  .inr (.inr (.inl (0, 5, fun k => ([6, 6, 5, 1, 1] : List Int32).getD k 0))),
  .inr (.inr (.inl (0, 10, fun k => ([0, 1, 2, 3, 4, 4, 5, 5, 6, 6] : List Int32).getD k 0))),
  .inr (.inr (.inl (0, 16, fun k => ([-3, -3, -3, -3, -3, -3, -3, -3, -3, -3, -3, -3, -999, 0, 0, -50] : List Int32).getD k 0))),
  .inr (.inr (.inl (0, 16, fun k => ([3, 3, 3, 3, 3, 3, 3, 3, 3, 3, 3, 3, 999, 100, 601, 50] : List Int32).getD k 0))),
  .inr (.inr (.inr (20, "java/lang/String", [.ref 71, .int 0]))),
  .inr (.inr (.inl (1, 27, fun k => ([112, 101, 114, 115, 111, 110, 32, 115, 105, 116, 116, 105, 110, 103, 32, 108, 97, 119, 32, 108, 105, 110, 101, 32, 111, 102, 102] : List Int32).getD k 0))),
  .inr (.inr (.inr (20, "java/lang/String", [.ref 73, .int 0]))),
  .inr (.inr (.inl (1, 9, fun k => ([102, 101, 108, 116, 32, 115, 97, 105, 100] : List Int32).getD k 0))),
  .inr (.inr (.inr (20, "java/lang/String", [.ref 75, .int 0]))),
  .inr (.inr (.inl (1, 5, fun k => ([115, 105, 103, 104, 116] : List Int32).getD k 0))),
  .inr (.inr (.inr (20, "java/lang/String", [.ref 77, .int 0]))),
  .inr (.inr (.inl (1, 5, fun k => ([106, 111, 105, 110, 116] : List Int32).getD k 0))),
  .inr (.inr (.inr (20, "java/lang/String", [.ref 79, .int 0]))),
  .inr (.inr (.inl (1, 5, fun k => ([116, 111, 117, 99, 104] : List Int32).getD k 0))),
  .inr (.inr (.inr (20, "java/lang/String", [.ref 81, .int 0]))),
  .inr (.inr (.inl (1, 5, fun k => ([108, 101, 97, 110, 115] : List Int32).getD k 0))),
  .inr (.inr (.inr (20, "java/lang/String", [.ref 83, .int 0]))),
  .inr (.inr (.inl (1, 3, fun k => ([121, 101, 115] : List Int32).getD k 0))),
  .inr (.inr (.inr (20, "java/lang/String", [.ref 85, .int 0]))),
  .inr (.inr (.inl (1, 4, fun k => ([119, 105, 115, 104] : List Int32).getD k 0))),
  .inr (.inr (.inr (20, "java/lang/String", [.ref 87, .int 0]))),
  .inr (.inr (.inl (1, 3, fun k => ([102, 97, 114] : List Int32).getD k 0))),
  .inr (.inr (.inr (20, "java/lang/String", [.ref 89, .int 0]))),
  .inr (.inr (.inl (1, 4, fun k => ([108, 97, 116, 101] : List Int32).getD k 0))),
  .inr (.inr (.inr (20, "java/lang/String", [.ref 91, .int 0]))),
  .inr (.inr (.inl (1, 12, fun k => ([116, 117, 114, 110, 101, 100, 32, 97, 115, 105, 100, 101] : List Int32).getD k 0))),
  .inr (.inr (.inr (20, "java/lang/String", [.ref 93, .int 0]))),
  .inr (.inr (.inl (1, 9, fun k => ([115, 116, 105, 99, 107, 32, 116, 111, 112] : List Int32).getD k 0))),
  .inr (.inr (.inr (20, "java/lang/String", [.ref 95, .int 0]))),
  .inr (.inr (.inl (1, 4, fun k => ([116, 111, 108, 100] : List Int32).getD k 0))),
  .inr (.inr (.inr (20, "java/lang/String", [.ref 97, .int 0]))),
  .inr (.inr (.inl (1, 7, fun k => ([115, 116, 114, 111, 107, 101, 115] : List Int32).getD k 0))),
  .inr (.inr (.inr (20, "java/lang/String", [.ref 99, .int 0]))),
  .inr (.inr (.inl (1, 15, fun k => ([115, 112, 97, 110, 115, 32, 111, 100, 100, 115, 32, 119, 105, 115, 104] : List Int32).getD k 0))),
  .inr (.inr (.inr (20, "java/lang/String", [.ref 101, .int 0]))),
  .inr (.inr (.inl (1, 3, fun k => ([116, 119, 111] : List Int32).getD k 0))),
  .inr (.inr (.inr (20, "java/lang/String", [.ref 103, .int 0]))),
  .inr (.inr (.inl (1, 6, fun k => ([115, 112, 114, 101, 97, 100] : List Int32).getD k 0))),
  .inr (.inr (.inr (20, "java/lang/String", [.ref 105, .int 0]))),
  .inr (.inr (.inl (1, 4, fun k => ([116, 117, 114, 110] : List Int32).getD k 0))),
  .inr (.inr (.inr (20, "java/lang/String", [.ref 107, .int 0]))),
  .inr (.inr (.inl (1, 5, fun k => ([115, 104, 97, 112, 101] : List Int32).getD k 0))),
  .inr (.inr (.inr (20, "java/lang/String", [.ref 109, .int 0]))),
  .inr (.inr (.inl (1, 3, fun k => ([110, 111, 116] : List Int32).getD k 0))),
  .inr (.inr (.inr (20, "java/lang/String", [.ref 111, .int 0]))),
  .inr (.inr (.inl (1, 62, fun k => ([102, 101, 108, 116, 32, 115, 97, 105, 100, 32, 115, 104, 111, 119, 110, 32, 115, 116, 97, 114, 116, 32, 115, 108, 111, 119, 32, 102, 97, 114, 32, 108, 97, 116, 101, 32, 119, 97, 121, 32, 116, 104, 105, 110, 103, 32, 116, 111, 108, 100, 32, 115, 116, 114, 111, 107, 101, 115, 32, 119, 104, 111] : List Int32).getD k 0))),
  .inr (.inr (.inr (20, "java/lang/String", [.ref 113, .int 0]))),
  .inr (.inr (.inl (1, 6, fun k => ([60, 61, 43, 45, 42, 47] : List Int32).getD k 0))),
  .inr (.inr (.inr (20, "java/lang/String", [.ref 115, .int 0]))),
  .inr (.inr (.inl (1, 6, fun k => ([111, 114, 32, 97, 110, 100] : List Int32).getD k 0))),
  .inr (.inr (.inr (20, "java/lang/String", [.ref 117, .int 0]))),
  .inr (.inr (.inl (1, 5, fun k => ([115, 104, 101, 101, 116] : List Int32).getD k 0))),
  .inr (.inr (.inr (20, "java/lang/String", [.ref 119, .int 0]))),
  .inr (.inr (.inl (1, 5, fun k => ([115, 104, 111, 119, 110] : List Int32).getD k 0))),
  .inr (.inr (.inr (20, "java/lang/String", [.ref 121, .int 0]))),
  .inr (.inr (.inl (1, 5, fun k => ([115, 116, 97, 114, 116] : List Int32).getD k 0))),
  .inr (.inr (.inr (20, "java/lang/String", [.ref 123, .int 0]))),
  .inr (.inr (.inl (1, 4, fun k => ([115, 108, 111, 119] : List Int32).getD k 0))),
  .inr (.inr (.inr (20, "java/lang/String", [.ref 125, .int 0]))),
  .inr (.inr (.inl (1, 4, fun k => ([99, 111, 108, 100] : List Int32).getD k 0))),
  .inr (.inr (.inr (20, "java/lang/String", [.ref 127, .int 0]))),
  .inr (.inr (.inl (1, 9, fun k => ([59, 40, 41, 43, 45, 42, 47, 60, 61] : List Int32).getD k 0))),
  .inr (.inr (.inr (20, "java/lang/String", [.ref 129, .int 0]))),
  .inr (.inr (.inl (1, 4, fun k => ([108, 101, 115, 115] : List Int32).getD k 0)))]
/-- the script is the last object: 130 -/
def tkd (sl : Nat) (xs : Nat → Int32) (i : Nat) : aKd := (tkL[i]?).getD (.inr (.inr (.inl (if i = 130 then 0 else 9, sl, xs))))
