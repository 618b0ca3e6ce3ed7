-- ===== the Statement's words on the constants =====
def subC : List Cond → List Cond → Bool
  | [], _ => true
  | _ :: _, [] => false
  | a :: l, b :: m => if a = b then subC l m else subC (a :: l) m
theorem subC_in : ∀ {m l : List Cond}, subC l m = true → ∀ w ∈ l, w ∈ m := by
  intro m
  induction m with
  | nil =>
    intro l h w hw
    cases l with
    | nil => cases hw
    | cons a l => cases h
  | cons b m ih =>
    intro l h w hw
    cases l with
    | nil => cases hw
    | cons a l =>
      have h : (if a = b then subC l m else subC (a :: l) m) = true := h
      by_cases e : a = b
      · rw [if_pos e] at h
        rcases List.mem_cons.mp hw with q | q
        · rw [q, e]
          exact List.mem_cons_self
        · exact List.mem_cons_of_mem _ (ih h w q)
      · rw [if_neg e] at h
        exact List.mem_cons_of_mem _ (ih h w hw)
def zS (i : Nat) : Term := .string (zTm.getD i ("", 0)).1 (zTm.getD i ("", 0)).2
def zV (i : Nat) : Term := .field (zS i) "java/lang/String" "value" "[B"
def zcS (i : Nat) : List Cond := [.exactly (zS i) "java/lang/String", .eq (.field (zS i) "java/lang/String" "coder" "B") (.int 0), .arrayOf (zV i) .byte, .eq (.length (zV i)) (.int (Int32.ofNat (zLen.getD i 0)))] ++ (List.range (zLen.getD i 0)).map (fun j => .eq (.elem (zV i) (.int (Int32.ofNat j))) (.int ((zByt.getD i []).getD j 0)))
def zWn : List String := ["GRADER", "REFERENCE", "MARGIN", "LIMIT", "POOL", "ICE", "STOP", "SPECIES", "TARGET", "QUOTA", "BOXES", "PRICE", "ITEM", "AND", "VOTE"]
def zW (i : Nat) : Term := .static "FishGrader$Word" (zWn.getD i "") "LFishGrader$Word;"
def zcW (i : Nat) : List Cond := [.exactly (zW i) "FishGrader$Word", .eq (.field (zW i) "FishGrader$Word" "text" "Ljava/lang/String;") (zS (23 + i))]
def zAl : Term := .static "FishGrader$Word" "ALL" "[LFishGrader$Word;"
def zcA : List Cond := [.arrayOf zAl (.object "FishGrader$Word"), .eq (.length zAl) (.int 15)] ++ (List.range 15).map (fun j => .eq (.elem zAl (.int (Int32.ofNat j))) (zW j))
def zD (f : String) : Term := .static "java/lang/Integer" f "[B"
def zcD (f : String) (g : Nat → Nat) : List Cond := [.arrayOf (zD f) .byte, .eq (.length (zD f)) (.int 100)] ++ (List.range 100).map (fun j => .eq (.elem (zD f) (.int (Int32.ofNat j))) (.int (Int32.ofNat (g j))))
def zcX (k : Nat) : Cond := .exactly (.string "FishGrader" k) "java/lang/String"
def zNp : List (Nat × Nat) := [(2, 1), (0, 1), (3, 1), (1, 2), (0, 2), (3, 2), (1, 0), (2, 0), (3, 0), (1, 3), (2, 3), (0, 3)]
def zXk : List Nat := [77, 102, 393, 395, 397, 402, 404, 183, 406, 408, 308, 326, 344, 346, 348]
def zc0 : List Cond := [.eq (.static "java/lang/String" "COMPACT_STRINGS" "Z") (.int 1), .isRef (.static "java/lang/Throwable" "UNASSIGNED_STACK" "[Ljava/lang/StackTraceElement;"), .isRef (.static "java/lang/Throwable" "SUPPRESSED_SENTINEL" "Ljava/util/List;")]
def zcI : List Cond := [.isRef (.static "jdk/internal/util/Preconditions" "SIOOBE_FORMATTER" "Ljava/util/function/BiFunction;")]
def zNeed : List Cond := (zc0) ++ ((zcW 0) ++ ((zcI) ++ (((List.range' 1 7).flatMap zcW) ++ ((zcA) ++ ((zcD "DigitOnes" (fun j => 48 + j % 10)) ++ ((zcD "DigitTens" (fun j => 48 + j / 10)) ++ (((List.range' 8 7).flatMap zcW) ++ ((zNp.map (fun q => .not (.castable (exN q.1) (exN q.2)))) ++ ((zcS 0) ++ ((zXk.map zcX) ++ (((List.range' 1 3).flatMap zcS) ++ (([zcX 387]) ++ ((List.range' 4 34).flatMap zcS)))))))))))))
set_option maxRecDepth 1000000 in
theorem zNeed_in : subC zNeed (flatC narrow_1) = true := by decide +kernel
theorem zn_zc0 {w : Cond} (h : w ∈ zc0) : w ∈ zNeed := List.mem_append_left _ h
theorem zn_w0 {w : Cond} (h : w ∈ zcW 0) : w ∈ zNeed := List.mem_append_right _ (List.mem_append_left _ h)
theorem zn_i {w : Cond} (h : w ∈ zcI) : w ∈ zNeed := List.mem_append_right _ (List.mem_append_right _ (List.mem_append_left _ h))
theorem zn_w1 {w : Cond} (h : w ∈ (List.range' 1 7).flatMap zcW) : w ∈ zNeed := List.mem_append_right _ (List.mem_append_right _ (List.mem_append_right _ (List.mem_append_left _ h)))
theorem zn_al {w : Cond} (h : w ∈ zcA) : w ∈ zNeed := List.mem_append_right _ (List.mem_append_right _ (List.mem_append_right _ (List.mem_append_right _ (List.mem_append_left _ h))))
theorem zn_d1 {w : Cond} (h : w ∈ zcD "DigitOnes" (fun j => 48 + j % 10)) : w ∈ zNeed := List.mem_append_right _ (List.mem_append_right _ (List.mem_append_right _ (List.mem_append_right _ (List.mem_append_right _ (List.mem_append_left _ h)))))
theorem zn_d2 {w : Cond} (h : w ∈ zcD "DigitTens" (fun j => 48 + j / 10)) : w ∈ zNeed := List.mem_append_right _ (List.mem_append_right _ (List.mem_append_right _ (List.mem_append_right _ (List.mem_append_right _ (List.mem_append_right _ (List.mem_append_left _ h))))))
theorem zn_w8 {w : Cond} (h : w ∈ (List.range' 8 7).flatMap zcW) : w ∈ zNeed := List.mem_append_right _ (List.mem_append_right _ (List.mem_append_right _ (List.mem_append_right _ (List.mem_append_right _ (List.mem_append_right _ (List.mem_append_right _ (List.mem_append_left _ h)))))))
theorem zn_nc {w : Cond} (h : w ∈ zNp.map (fun q => .not (.castable (exN q.1) (exN q.2)))) : w ∈ zNeed := List.mem_append_right _ (List.mem_append_right _ (List.mem_append_right _ (List.mem_append_right _ (List.mem_append_right _ (List.mem_append_right _ (List.mem_append_right _ (List.mem_append_right _ (List.mem_append_left _ h))))))))
theorem zn_s0 {w : Cond} (h : w ∈ zcS 0) : w ∈ zNeed := List.mem_append_right _ (List.mem_append_right _ (List.mem_append_right _ (List.mem_append_right _ (List.mem_append_right _ (List.mem_append_right _ (List.mem_append_right _ (List.mem_append_right _ (List.mem_append_right _ (List.mem_append_left _ h)))))))))
theorem zn_x {w : Cond} (h : w ∈ zXk.map zcX) : w ∈ zNeed := List.mem_append_right _ (List.mem_append_right _ (List.mem_append_right _ (List.mem_append_right _ (List.mem_append_right _ (List.mem_append_right _ (List.mem_append_right _ (List.mem_append_right _ (List.mem_append_right _ (List.mem_append_right _ (List.mem_append_left _ h))))))))))
theorem zn_s1 {w : Cond} (h : w ∈ (List.range' 1 3).flatMap zcS) : w ∈ zNeed := List.mem_append_right _ (List.mem_append_right _ (List.mem_append_right _ (List.mem_append_right _ (List.mem_append_right _ (List.mem_append_right _ (List.mem_append_right _ (List.mem_append_right _ (List.mem_append_right _ (List.mem_append_right _ (List.mem_append_right _ (List.mem_append_left _ h)))))))))))
theorem zn_x2 {w : Cond} (h : w ∈ [zcX 387]) : w ∈ zNeed := List.mem_append_right _ (List.mem_append_right _ (List.mem_append_right _ (List.mem_append_right _ (List.mem_append_right _ (List.mem_append_right _ (List.mem_append_right _ (List.mem_append_right _ (List.mem_append_right _ (List.mem_append_right _ (List.mem_append_right _ (List.mem_append_right _ (List.mem_append_left _ h))))))))))))
theorem zn_s4 {w : Cond} (h : w ∈ (List.range' 4 34).flatMap zcS) : w ∈ zNeed := List.mem_append_right _ (List.mem_append_right _ (List.mem_append_right _ (List.mem_append_right _ (List.mem_append_right _ (List.mem_append_right _ (List.mem_append_right _ (List.mem_append_right _ (List.mem_append_right _ (List.mem_append_right _ (List.mem_append_right _ (List.mem_append_right _ (List.mem_append_right _ (h)))))))))))))
theorem zn_S {i : Nat} (hi : i < 38) {w : Cond} (h : w ∈ zcS i) : w ∈ zNeed := by
  by_cases c : i = 0
  · subst c
    exact zn_s0 h
  · by_cases c2 : i < 4
    · exact zn_s1 (List.mem_flatMap.mpr ⟨i, List.mem_range'_1.mpr (by omega), h⟩)
    · exact zn_s4 (List.mem_flatMap.mpr ⟨i, List.mem_range'_1.mpr (by omega), h⟩)
theorem zn_W {i : Nat} (hi : i < 15) {w : Cond} (h : w ∈ zcW i) : w ∈ zNeed := by
  by_cases c : i = 0
  · subst c
    exact zn_w0 h
  · by_cases c2 : i < 8
    · exact zn_w1 (List.mem_flatMap.mpr ⟨i, List.mem_range'_1.mpr (by omega), h⟩)
    · exact zn_w8 (List.mem_flatMap.mpr ⟨i, List.mem_range'_1.mpr (by omega), h⟩)
theorem zn_at {b : Nat} {s : State} (h : (Jvm.Cond.and given_1 narrow_1).before #[Value.ref b] s = true) {w : Cond} (hw : w ∈ zNeed) : w.before #[Value.ref b] s = true := flat_of_before _ h w (List.mem_append_right _ (subC_in zNeed_in w hw))
def zLs : List (String × String × String) := [("java/lang/String", "COMPACT_STRINGS", "Z"), ("FishGrader$Word", "GRADER", "LFishGrader$Word;"), ("FishGrader$Word", "REFERENCE", "LFishGrader$Word;"), ("FishGrader$Word", "MARGIN", "LFishGrader$Word;"), ("FishGrader$Word", "LIMIT", "LFishGrader$Word;"), ("FishGrader$Word", "POOL", "LFishGrader$Word;"), ("FishGrader$Word", "ICE", "LFishGrader$Word;"), ("FishGrader$Word", "STOP", "LFishGrader$Word;"), ("FishGrader$Word", "SPECIES", "LFishGrader$Word;"), ("FishGrader$Word", "TARGET", "LFishGrader$Word;"), ("FishGrader$Word", "QUOTA", "LFishGrader$Word;"), ("FishGrader$Word", "BOXES", "LFishGrader$Word;"), ("FishGrader$Word", "PRICE", "LFishGrader$Word;"), ("FishGrader$Word", "ITEM", "LFishGrader$Word;"), ("FishGrader$Word", "AND", "LFishGrader$Word;"), ("FishGrader$Word", "VOTE", "LFishGrader$Word;"), ("FishGrader$Word", "ALL", "[LFishGrader$Word;"), ("java/lang/Integer", "DigitOnes", "[B"), ("java/lang/Integer", "DigitTens", "[B"), ("java/lang/Throwable", "UNASSIGNED_STACK", "[Ljava/lang/StackTraceElement;"), ("java/lang/Throwable", "SUPPRESSED_SENTINEL", "Ljava/util/List;"), ("jdk/internal/util/Preconditions", "SIOOBE_FORMATTER", "Ljava/util/function/BiFunction;")]
def zlW (q : String × String × String) : Cond := .laysStatic q.1 q.2.1 q.2.2
set_option maxRecDepth 1000000 in
theorem zLs_in : ∀ e ∈ zLs, zlW e ∈ lw_tbl := in_all (ps := [(2, 58), (3, 125), (3, 186), (3, 196), (3, 198), (3, 200), (3, 206), (3, 217), (3, 227), (4, 226), (4, 228), (4, 231), (4, 233), (4, 235), (5, 5), (5, 21), (3, 237), (4, 146), (4, 148), (2, 226), (2, 228), (3, 158)]) (by decide +kernel)
def zIs : List String := ["FishGrader$Word", "java/lang/Integer", "java/lang/String", "java/lang/Throwable", "jdk/internal/util/Preconditions"]
set_option maxRecDepth 1000000 in
theorem zIs_in : ∀ e ∈ zIs, Cond.initialized e ∈ lw_tbl := in_all (ps := [(1, 20), (1, 28), (1, 9), (1, 12), (1, 22)]) (by decide +kernel)
set_option maxRecDepth 1000000 in
theorem zSR_in : ∀ e ∈ SR, Cond.stringRef e.1 e.2.1 e.2.2.1 ∈ lw_tbl := in_all (f := fun e : String × Nat × String × Nat => Cond.stringRef e.1 e.2.1 e.2.2.1) (ps := [(10, 195), (10, 185), (10, 190), (8, 33), (8, 19), (8, 20), (1, 53), (8, 194), (8, 209), (8, 218), (8, 219), (8, 220), (8, 225), (8, 231), (8, 236), (9, 15), (9, 10), (9, 11), (9, 13), (9, 14), (9, 20), (9, 21), (9, 5)]) (by decide +kernel)
set_option maxRecDepth 1000000 in
theorem zXR_in : ∀ e ∈ XR, Cond.stringRef e.1 e.2.2.1 e.2.2.2.2.2.1 ∈ lw_tbl := in_all (f := fun e : XRt => Cond.stringRef e.1 e.2.2.1 e.2.2.2.2.2.1) (ps := [(8, 41), (7, 183), (7, 168), (7, 160), (7, 127), (7, 95), (5, 212), (3, 3), (5, 52), (5, 83), (5, 172), (5, 102), (6, 12), (6, 0), (5, 145), (5, 90)]) (by decide +kernel)
set_option maxRecDepth 100000 in
theorem zAO_in : Cond.arrayOver (.object "FishGrader$State") ∈ lw_tbl := tk_in 2 _ (List.mem_of_getElem? (i := 47) rfl)
theorem zSR_ix : ∀ e ∈ SR, e.2.2.2 / 2 < 38 ∧ e.2.2.2 % 2 = 0 ∧ zTm.getD (e.2.2.2 / 2) ("", 0) = (e.1, e.2.1) := by decide +kernel
theorem zXR_ix : ∀ e ∈ XR, e.1 = "FishGrader" ∧ (e.2.2.1 ∈ zXk ∨ e.2.2.1 = 387) := by decide +kernel
