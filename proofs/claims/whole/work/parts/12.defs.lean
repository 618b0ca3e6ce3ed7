-- ===== fields and their types by classes' numbers; fields of constants =====
def tyS : FieldType := .object "FishGrader$State"
def fszC (c : Nat) : Nat := match cTab[c]? with
  | some q => q.2.2.1
  | none => 0
def ftyC (c k : Nat) : FieldType := match cTab[c]? with
  | some q => q.2.2.2 k
  | none => .int
/-- the fields of constants that are read: String's value and coder, the text of a word -/
def sfld : List (Nat × Nat × String × String × String × FieldType) := [(9, 0, "java/lang/String", "value", "[B", .array .byte), (9, 1, "java/lang/String", "coder", "B", .byte), (11, 0, "FishGrader$Word", "text", "Ljava/lang/String;", .object "java/lang/String")]
