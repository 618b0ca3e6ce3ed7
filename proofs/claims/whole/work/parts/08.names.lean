-- ===== classes: names, fields, types (printed rows, given for pasting) =====
def RX0 : String := "FishGrader$Boxes"
def TX0 : u_T := fun k => match k with
  | 0 => ("FishGrader$Boxes", "count", "I", false)
  | 1 => ("FishGrader$Boxes", "iced", "I", false)
  | 2 => ("FishGrader$Boxes", "species", "[I", true)
  | 3 => ("FishGrader$Boxes", "weight", "[I", true)
  | 4 => ("FishGrader$Boxes", "target", "[I", true)
  | 5 => ("FishGrader$Boxes", "closedAt", "[I", true)
  | _ => ("FishGrader$Boxes", "icedAt", "[I", true)
def tyX0 : Nat → FieldType := fun k => match k with
  | 0 => .int
  | 1 => .int
  | 2 => .array .int
  | 3 => .array .int
  | 4 => .array .int
  | 5 => .array .int
  | _ => .array .int
theorem nmX0 : ∀ a, a < 7 → ∀ b, b < 7 → a ≠ b → (TX0 a).2.1 ≠ (TX0 b).2.1 := by decide +kernel
theorem tyX0_ok : ∀ k, k < 7 → parseFieldDescriptor (TX0 k).2.2.1 = some (tyX0 k) := by decide +kernel
def RX1 : String := "FishGrader$Items"
def TX1 : u_T := fun k => match k with
  | 0 => ("FishGrader$Items", "count", "I", false)
  | 1 => ("FishGrader$Items", "handled", "I", false)
  | 2 => ("FishGrader$Items", "weight", "[I", true)
  | 3 => ("FishGrader$Items", "species", "[I", true)
  | 4 => ("FishGrader$Items", "fate", "[I", true)
  | 5 => ("FishGrader$Items", "box", "[I", true)
  | _ => ("FishGrader$Items", "scores", "[I", true)
def tyX1 : Nat → FieldType := fun k => match k with
  | 0 => .int
  | 1 => .int
  | 2 => .array .int
  | 3 => .array .int
  | 4 => .array .int
  | 5 => .array .int
  | _ => .array .int
theorem nmX1 : ∀ a, a < 7 → ∀ b, b < 7 → a ≠ b → (TX1 a).2.1 ≠ (TX1 b).2.1 := by decide +kernel
theorem tyX1_ok : ∀ k, k < 7 → parseFieldDescriptor (TX1 k).2.2.1 = some (tyX1 k) := by decide +kernel
def RX2 : String := "FishGrader$Kind"
def TX2 : u_T := fun k => match k with
  | 0 => ("FishGrader$Kind", "name", "Ljava/lang/String;", false)
  | 1 => ("FishGrader$Kind", "places", "I", false)
  | _ => ("FishGrader$Kind", "price", "I", false)
def tyX2 : Nat → FieldType := fun k => match k with
  | 0 => .object "java/lang/String"
  | 1 => .int
  | _ => .int
theorem nmX2 : ∀ a, a < 3 → ∀ b, b < 3 → a ≠ b → (TX2 a).2.1 ≠ (TX2 b).2.1 := by decide +kernel
theorem tyX2_ok : ∀ k, k < 3 → parseFieldDescriptor (TX2 k).2.2.1 = some (tyX2 k) := by decide +kernel
def RX3 : String := "FishGrader$Parser"
def TX3 : u_T := fun k => match k with
  | 0 => ("FishGrader$Parser", "tokens", "LFishGrader$Tokens;", true)
  | 1 => ("FishGrader$Parser", "setup", "LFishGrader$Setup;", true)
  | 2 => ("FishGrader$Parser", "state", "LFishGrader$State;", true)
  | 3 => ("FishGrader$Parser", "iceSeen", "Z", false)
  | 4 => ("FishGrader$Parser", "error", "I", false)
  | 5 => ("FishGrader$Parser", "errorAt", "I", false)
  | 6 => ("FishGrader$Parser", "value", "I", false)
  | 7 => ("FishGrader$Parser", "readings", "I", false)
  | _ => ("FishGrader$Parser", "refs", "I", false)
def tyX3 : Nat → FieldType := fun k => match k with
  | 0 => .object "FishGrader$Tokens"
  | 1 => .object "FishGrader$Setup"
  | 2 => .object "FishGrader$State"
  | 3 => .boolean
  | 4 => .int
  | 5 => .int
  | 6 => .int
  | 7 => .int
  | _ => .int
theorem nmX3 : ∀ a, a < 9 → ∀ b, b < 9 → a ≠ b → (TX3 a).2.1 ≠ (TX3 b).2.1 := by decide +kernel
theorem tyX3_ok : ∀ k, k < 9 → parseFieldDescriptor (TX3 k).2.2.1 = some (tyX3 k) := by decide +kernel
def RX4 : String := "FishGrader$Setup"
def TX4 : u_T := fun k => match k with
  | 0 => ("FishGrader$Setup", "reference", "I", false)
  | 1 => ("FishGrader$Setup", "margin", "I", false)
  | 2 => ("FishGrader$Setup", "poolSize", "I", false)
  | 3 => ("FishGrader$Setup", "percent", "I", false)
  | 4 => ("FishGrader$Setup", "make", "I", false)
  | 5 => ("FishGrader$Setup", "store", "I", false)
  | 6 => ("FishGrader$Setup", "due", "I", false)
  | 7 => ("FishGrader$Setup", "melt", "I", false)
  | 8 => ("FishGrader$Setup", "stopCount", "I", false)
  | 9 => ("FishGrader$Setup", "stopFrom", "[I", true)
  | 10 => ("FishGrader$Setup", "stopUntil", "[I", true)
  | 11 => ("FishGrader$Setup", "speciesCount", "I", false)
  | 12 => ("FishGrader$Setup", "kind0", "LFishGrader$Kind;", true)
  | 13 => ("FishGrader$Setup", "kind1", "LFishGrader$Kind;", true)
  | 14 => ("FishGrader$Setup", "kind2", "LFishGrader$Kind;", true)
  | _ => ("FishGrader$Setup", "kind3", "LFishGrader$Kind;", true)
def tyX4 : Nat → FieldType := fun k => match k with
  | 0 => .int
  | 1 => .int
  | 2 => .int
  | 3 => .int
  | 4 => .int
  | 5 => .int
  | 6 => .int
  | 7 => .int
  | 8 => .int
  | 9 => .array .int
  | 10 => .array .int
  | 11 => .int
  | 12 => .object "FishGrader$Kind"
  | 13 => .object "FishGrader$Kind"
  | 14 => .object "FishGrader$Kind"
  | _ => .object "FishGrader$Kind"
theorem nmX4 : ∀ a, a < 16 → ∀ b, b < 16 → a ≠ b → (TX4 a).2.1 ≠ (TX4 b).2.1 := by decide +kernel
theorem tyX4_ok : ∀ k, k < 16 → parseFieldDescriptor (TX4 k).2.2.1 = some (tyX4 k) := by decide +kernel
def RX5 : String := "FishGrader$State"
def TX5 : u_T := fun k => match k with
  | 0 => ("FishGrader$State", "time", "I", false)
  | 1 => ("FishGrader$State", "rule", "I", false)
  | 2 => ("FishGrader$State", "limit", "I", false)
  | 3 => ("FishGrader$State", "ice", "I", false)
  | 4 => ("FishGrader$State", "iceUsed", "I", false)
  | 5 => ("FishGrader$State", "poolCount", "I", false)
  | 6 => ("FishGrader$State", "pool", "[I", true)
  | 7 => ("FishGrader$State", "target", "[I", true)
  | 8 => ("FishGrader$State", "quota", "[I", true)
  | 9 => ("FishGrader$State", "landed", "[I", true)
  | 10 => ("FishGrader$State", "discarded", "[I", true)
  | 11 => ("FishGrader$State", "content", "[I", true)
  | 12 => ("FishGrader$State", "items", "LFishGrader$Items;", true)
  | _ => ("FishGrader$State", "boxes", "LFishGrader$Boxes;", true)
def tyX5 : Nat → FieldType := fun k => match k with
  | 0 => .int
  | 1 => .int
  | 2 => .int
  | 3 => .int
  | 4 => .int
  | 5 => .int
  | 6 => .array .int
  | 7 => .array .int
  | 8 => .array .int
  | 9 => .array .int
  | 10 => .array .int
  | 11 => .array .int
  | 12 => .object "FishGrader$Items"
  | _ => .object "FishGrader$Boxes"
theorem nmX5 : ∀ a, a < 14 → ∀ b, b < 14 → a ≠ b → (TX5 a).2.1 ≠ (TX5 b).2.1 := by decide +kernel
theorem tyX5_ok : ∀ k, k < 14 → parseFieldDescriptor (TX5 k).2.2.1 = some (tyX5 k) := by decide +kernel
def RX6 : String := "FishGrader$Tokens"
def TX6 : u_T := fun k => match k with
  | 0 => ("FishGrader$Tokens", "bytes", "[B", true)
  | 1 => ("FishGrader$Tokens", "length", "I", true)
  | 2 => ("FishGrader$Tokens", "start", "I", false)
  | 3 => ("FishGrader$Tokens", "next", "I", false)
  | 4 => ("FishGrader$Tokens", "kind", "I", false)
  | _ => ("FishGrader$Tokens", "value", "I", false)
def tyX6 : Nat → FieldType := fun k => match k with
  | 0 => .array .byte
  | 1 => .int
  | 2 => .int
  | 3 => .int
  | 4 => .int
  | _ => .int
theorem nmX6 : ∀ a, a < 6 → ∀ b, b < 6 → a ≠ b → (TX6 a).2.1 ≠ (TX6 b).2.1 := by decide +kernel
theorem tyX6_ok : ∀ k, k < 6 → parseFieldDescriptor (TX6 k).2.2.1 = some (tyX6 k) := by decide +kernel
def RX8 : String := "FishGrader"
def TX8 : u_T := fun k => match k with
  | 0 => ("FishGrader", "buffer", "[B", true)
  | 1 => ("FishGrader", "bufferLength", "I", false)
  | 2 => ("FishGrader", "errorCode", "I", false)
  | 3 => ("FishGrader", "errorAt", "I", false)
  | 4 => ("FishGrader", "loaded", "Z", false)
  | 5 => ("FishGrader", "setup", "LFishGrader$Setup;", false)
  | 6 => ("FishGrader", "draft", "LFishGrader$Setup;", false)
  | 7 => ("FishGrader", "state", "LFishGrader$State;", false)
  | 8 => ("FishGrader", "scratch", "LFishGrader$State;", false)
  | 9 => ("FishGrader", "hasSaved", "Z", false)
  | 10 => ("FishGrader", "saved", "LFishGrader$State;", true)
  | 11 => ("FishGrader", "changes", "I", false)
  | 12 => ("FishGrader", "history", "[LFishGrader$State;", true)
  | 13 => ("FishGrader", "written", "Ljava/lang/StringBuilder;", true)
  | _ => ("FishGrader", "nextWeights", "[I", true)
def tyX8 : Nat → FieldType := fun k => match k with
  | 0 => .array .byte
  | 1 => .int
  | 2 => .int
  | 3 => .int
  | 4 => .boolean
  | 5 => .object "FishGrader$Setup"
  | 6 => .object "FishGrader$Setup"
  | 7 => .object "FishGrader$State"
  | 8 => .object "FishGrader$State"
  | 9 => .boolean
  | 10 => .object "FishGrader$State"
  | 11 => .int
  | 12 => .array (.object "FishGrader$State")
  | 13 => .object "java/lang/StringBuilder"
  | _ => .array .int
theorem nmX8 : ∀ a, a < 15 → ∀ b, b < 15 → a ≠ b → (TX8 a).2.1 ≠ (TX8 b).2.1 := by decide +kernel
theorem tyX8_ok : ∀ k, k < 15 → parseFieldDescriptor (TX8 k).2.2.1 = some (tyX8 k) := by decide +kernel
def RX9 : String := "FishGraderModel"
def TX9 : u_T := fun k => match k with
  | 0 => ("FishGraderModel", "thrown", "I", false)
  | 1 => ("FishGraderModel", "buffer", "[I", true)
  | 2 => ("FishGraderModel", "buffered", "I", false)
  | 3 => ("FishGraderModel", "end", "I", false)
  | 4 => ("FishGraderModel", "next", "I", false)
  | 5 => ("FishGraderModel", "parseCode", "I", false)
  | 6 => ("FishGraderModel", "parsePlace", "I", false)
  | 7 => ("FishGraderModel", "token", "I", false)
  | 8 => ("FishGraderModel", "start", "I", false)
  | 9 => ("FishGraderModel", "value", "I", false)
  | 10 => ("FishGraderModel", "word", "J", false)
  | 11 => ("FishGraderModel", "plan", "[I", true)
  | 12 => ("FishGraderModel", "newPlan", "[I", true)
  | 13 => ("FishGraderModel", "name", "[J", true)
  | 14 => ("FishGraderModel", "newName", "[J", true)
  | 15 => ("FishGraderModel", "now", "[I", true)
  | 16 => ("FishGraderModel", "draft", "[I", true)
  | 17 => ("FishGraderModel", "work", "[I", true)
  | 18 => ("FishGraderModel", "history", "[I", true)
  | 19 => ("FishGraderModel", "stored", "[I", true)
  | 20 => ("FishGraderModel", "undos", "I", false)
  | 21 => ("FishGraderModel", "hasGrader", "Z", false)
  | 22 => ("FishGraderModel", "isStored", "Z", false)
  | 23 => ("FishGraderModel", "hasIce", "Z", false)
  | 24 => ("FishGraderModel", "ahead", "[I", true)
  | 25 => ("FishGraderModel", "page", "[I", true)
  | _ => ("FishGraderModel", "pageSize", "I", false)
def tyX9 : Nat → FieldType := fun k => match k with
  | 0 => .int
  | 1 => .array .int
  | 2 => .int
  | 3 => .int
  | 4 => .int
  | 5 => .int
  | 6 => .int
  | 7 => .int
  | 8 => .int
  | 9 => .int
  | 10 => .long
  | 11 => .array .int
  | 12 => .array .int
  | 13 => .array .long
  | 14 => .array .long
  | 15 => .array .int
  | 16 => .array .int
  | 17 => .array .int
  | 18 => .array .int
  | 19 => .array .int
  | 20 => .int
  | 21 => .boolean
  | 22 => .boolean
  | 23 => .boolean
  | 24 => .array .int
  | 25 => .array .int
  | _ => .int
theorem nmX9 : ∀ a, a < 27 → ∀ b, b < 27 → a ≠ b → (TX9 a).2.1 ≠ (TX9 b).2.1 := by decide +kernel
theorem tyX9_ok : ∀ k, k < 27 → parseFieldDescriptor (TX9 k).2.2.1 = some (tyX9 k) := by decide +kernel
def RJ0 : String := "java/lang/String"
def TJ0 : u_T := fun k => match k with
  | 0 => ("java/lang/String", "value", "[B", true)
  | 1 => ("java/lang/String", "coder", "B", true)
  | 2 => ("java/lang/String", "hash", "I", false)
  | _ => ("java/lang/String", "hashIsZero", "Z", false)
def tyJ0 : Nat → FieldType := fun k => match k with
  | 0 => .array .byte
  | 1 => .byte
  | 2 => .int
  | _ => .boolean
theorem nmJ0 : ∀ a, a < 4 → ∀ b, b < 4 → a ≠ b → (TJ0 a).2.1 ≠ (TJ0 b).2.1 := by decide +kernel
theorem tyJ0_ok : ∀ k, k < 4 → parseFieldDescriptor (TJ0 k).2.2.1 = some (tyJ0 k) := by decide +kernel
def RJ4 : String := "java/lang/StringBuilder"
def TJ4 : u_T := fun k => match k with
  | 0 => ("java/lang/AbstractStringBuilder", "value", "[B", false)
  | 1 => ("java/lang/AbstractStringBuilder", "coder", "B", false)
  | 2 => ("java/lang/AbstractStringBuilder", "maybeLatin1", "Z", false)
  | _ => ("java/lang/AbstractStringBuilder", "count", "I", false)
def tyJ4 : Nat → FieldType := fun k => match k with
  | 0 => .array .byte
  | 1 => .byte
  | 2 => .boolean
  | _ => .int
theorem nmJ4 : ∀ a, a < 4 → ∀ b, b < 4 → a ≠ b → (TJ4 a).2.1 ≠ (TJ4 b).2.1 := by decide +kernel
theorem tyJ4_ok : ∀ k, k < 4 → parseFieldDescriptor (TJ4 k).2.2.1 = some (tyJ4 k) := by decide +kernel
theorem in_of (ws : List Cond) (ps : List Nat) (hp : ws = ps.filterMap (fun i => lw_tbl[i]?)) : ∀ w ∈ ws, w ∈ lw_tbl := by
  intro w hw
  rw [hp] at hw
  obtain ⟨i, -, hi⟩ := List.mem_filterMap.mp hw
  exact List.mem_of_getElem? hi
set_option maxRecDepth 100000 in
theorem inC_X0 : ∀ w ∈ u_ws RX0 TX0 7, w ∈ lw_tbl := in_of _ [349, 351, 353, 355, 357, 359, 361] rfl
set_option maxRecDepth 100000 in
theorem inC_X1 : ∀ w ∈ u_ws RX1 TX1 7, w ∈ lw_tbl := in_of _ [309, 311, 313, 315, 317, 319, 321] rfl
set_option maxRecDepth 100000 in
theorem inC_X2 : ∀ w ∈ u_ws RX2 TX2 3, w ∈ lw_tbl := in_of _ [202, 204, 206] rfl
set_option maxRecDepth 100000 in
theorem inC_X3 : ∀ w ∈ u_ws RX3 TX3 9, w ∈ lw_tbl := in_of _ [695, 697, 699, 701, 703, 705, 707, 709, 711] rfl
set_option maxRecDepth 100000 in
theorem inC_X4 : ∀ w ∈ u_ws RX4 TX4 16, w ∈ lw_tbl := in_of _ [245, 247, 249, 251, 253, 255, 257, 259, 261, 263, 265, 267, 269, 271, 273, 275] rfl
set_option maxRecDepth 100000 in
theorem inC_X5 : ∀ w ∈ u_ws RX5 TX5 14, w ∈ lw_tbl := in_of _ [396, 398, 400, 402, 404, 406, 408, 410, 412, 414, 416, 418, 420, 422] rfl
set_option maxRecDepth 100000 in
theorem inC_X6 : ∀ w ∈ u_ws RX6 TX6 6, w ∈ lw_tbl := in_of _ [667, 669, 671, 673, 675, 677] rfl
set_option maxRecDepth 100000 in
theorem inC_X8 : ∀ w ∈ u_ws RX8 TX8 15, w ∈ lw_tbl := in_of _ [473, 475, 477, 479, 481, 483, 485, 487, 489, 491, 493, 495, 497, 499, 501] rfl
set_option maxRecDepth 100000 in
theorem inC_X9 : ∀ w ∈ u_ws RX9 TX9 27, w ∈ lw_tbl := in_of _ [1903, 1905, 1907, 1909, 1911, 1913, 1915, 1917, 1919, 1921, 1923, 1925, 1927, 1929, 1931, 1933, 1935, 1937, 1939, 1941, 1943, 1945, 1947, 1949, 1951, 1953, 1955] rfl
set_option maxRecDepth 100000 in
theorem inC_J0 : ∀ w ∈ u_ws RJ0 TJ0 4, w ∈ lw_tbl := in_of _ [1074, 1076, 1078, 1080] rfl
set_option maxRecDepth 100000 in
theorem inC_J4 : ∀ w ∈ u_ws RJ4 TJ4 4, w ∈ lw_tbl := in_of _ [449, 451, 453, 455] rfl
abbrev cTab : List (String × u_T × Nat × (Nat → FieldType)) := [(RX0, TX0, 7, tyX0), (RX1, TX1, 7, tyX1), (RX2, TX2, 3, tyX2), (RX3, TX3, 9, tyX3), (RX4, TX4, 16, tyX4), (RX5, TX5, 14, tyX5), (RX6, TX6, 6, tyX6), (RX8, TX8, 15, tyX8), (RX9, TX9, 27, tyX9), (RJ0, TJ0, 4, tyJ0), (RJ4, TJ4, 4, tyJ4)]
