-- ===== single words =====
set_option maxRecDepth 100000 in
theorem aC_byte : Cond.arrayClass .byte ∈ lw_tbl := tk_in 1 _ (List.mem_of_getElem? (i := 71) rfl)
set_option maxRecDepth 100000 in
theorem aC_int : Cond.arrayClass .int ∈ lw_tbl := tk_in 1 _ (List.mem_of_getElem? (i := 72) rfl)
set_option maxRecDepth 100000 in
theorem aC_long : Cond.arrayClass .long ∈ lw_tbl := tk_in 8 _ (List.mem_of_getElem? (i := 140) rfl)
set_option maxRecDepth 100000 in
theorem aC_nat : Cond.native arraycopyName ∈ lw_tbl := tk_in 4 _ (List.mem_of_getElem? (i := 51) rfl)
set_option maxRecDepth 100000 in
theorem aC_st : Cond.static arraycopyName ∈ lw_tbl := tk_in 4 _ (List.mem_of_getElem? (i := 50) rfl)
set_option maxRecDepth 100000 in
theorem aC_sys : Cond.initialized "java/lang/System" ∈ lw_tbl := tk_in 1 _ (List.mem_of_getElem? (i := 25) rfl)
set_option maxRecDepth 100000 in
theorem mI_math : Cond.initialized "java/lang/Math" ∈ lw_tbl := tk_in 1 _ (List.mem_of_getElem? (i := 18) rfl)
set_option maxRecDepth 100000 in
theorem mI_min : Cond.static Lib.Math.min.name ∈ lw_tbl := tk_in 3 _ (List.mem_of_getElem? (i := 38) rfl)
set_option maxRecDepth 100000 in
theorem mC_min : Cond.code Lib.Math.min.name Lib.Math.min.code 2 (some .int) ∈ lw_tbl := tk_in 3 _ (List.mem_of_getElem? (i := 39) rfl)
set_option maxRecDepth 100000 in
theorem mI_max : Cond.static Lib.Math.max.name ∈ lw_tbl := tk_in 4 _ (List.mem_of_getElem? (i := 31) rfl)
set_option maxRecDepth 100000 in
theorem mC_max : Cond.code Lib.Math.max.name Lib.Math.max.code 2 (some .int) ∈ lw_tbl := tk_in 4 _ (List.mem_of_getElem? (i := 32) rfl)
set_option maxRecDepth 100000 in
theorem mI_minL : Cond.static Lib.MathLoose.min_long.x ∈ lw_tbl := tk_in 5 _ (List.mem_of_getElem? (i := 13) rfl)
set_option maxRecDepth 100000 in
theorem mC_minL : Cond.code Lib.MathLoose.min_long.x Lib.MathLoose.min_long.code 4 (some .long) ∈ lw_tbl := tk_in 5 _ (List.mem_of_getElem? (i := 14) rfl)
set_option maxRecDepth 100000 in
theorem oI_in : Cond.instanceMethod Lib.objectInit ∈ lw_tbl := tk_in 1 _ (List.mem_of_getElem? (i := 39) rfl)
set_option maxRecDepth 100000 in
theorem oI_code : Cond.code Lib.objectInit ⟨#[0xb1]⟩ 1 none ∈ lw_tbl := tk_in 1 _ (List.mem_of_getElem? (i := 40) rfl)
set_option maxRecDepth 100000 in
theorem cI_st : Cond.static ⟨"java/lang/String", "checkIndex", "(II)V"⟩ ∈ lw_tbl := tk_in 3 _ (List.mem_of_getElem? (i := 155) rfl)
set_option maxRecDepth 100000 in
theorem cI_code : Cond.code ⟨"java/lang/String", "checkIndex", "(II)V"⟩ prog_28_method_155_code 2 none ∈ lw_tbl := tk_in 3 _ (List.mem_of_getElem? (i := 156) rfl)
set_option maxRecDepth 100000 in
theorem cI_ini : Cond.initialized "java/lang/String" ∈ lw_tbl := tk_in 1 _ (List.mem_of_getElem? (i := 9) rfl)
set_option maxRecDepth 100000 in
theorem cP_st : Cond.static ⟨"jdk/internal/util/Preconditions", "checkIndex", "(IILjava/util/function/BiFunction;)I"⟩ ∈ lw_tbl := tk_in 3 _ (List.mem_of_getElem? (i := 160) rfl)
set_option maxRecDepth 100000 in
theorem cP_code : Cond.code ⟨"jdk/internal/util/Preconditions", "checkIndex", "(IILjava/util/function/BiFunction;)I"⟩ prog_40_method_11_code 3 (some .int) ∈ lw_tbl := tk_in 3 _ (List.mem_of_getElem? (i := 161) rfl)
set_option maxRecDepth 100000 in
theorem cP_ini : Cond.initialized "jdk/internal/util/Preconditions" ∈ lw_tbl := tk_in 1 _ (List.mem_of_getElem? (i := 22) rfl)
set_option maxRecDepth 100000 in
theorem cP_lk : Cond.methodLink "java/lang/String" 1059 ⟨"jdk/internal/util/Preconditions", "checkIndex", "(IILjava/util/function/BiFunction;)I"⟩ ∈ lw_tbl := tk_in 3 _ (List.mem_of_getElem? (i := 159) rfl)
set_option maxRecDepth 100000 in
theorem cS_lk : Cond.fieldLink "java/lang/String" 1053 "jdk/internal/util/Preconditions" "SIOOBE_FORMATTER" "Ljava/util/function/BiFunction;" ∈ lw_tbl := tk_in 3 _ (List.mem_of_getElem? (i := 157) rfl)
set_option maxRecDepth 100000 in
theorem sU_same : Cond.sameMethod "java/lang/AbstractStringBuilder" "java/lang/AbstractStringBuilder" "length" "()I" ∈ lw_tbl := tk_in 4 _ (List.mem_of_getElem? (i := 105) rfl)
set_option maxRecDepth 100000 in
theorem sU_sel : Cond.selects "java/lang/StringBuilder" ⟨"java/lang/AbstractStringBuilder", "length", "()I"⟩ ⟨"java/lang/StringBuilder", "length", "()I"⟩ ∈ lw_tbl := tk_in 4 _ (List.mem_of_getElem? (i := 106) rfl)
set_option maxRecDepth 100000 in
theorem sU_im : Cond.instanceMethod ⟨"java/lang/AbstractStringBuilder", "length", "()I"⟩ ∈ lw_tbl := tk_in 4 _ (List.mem_of_getElem? (i := 104) rfl)
set_option maxRecDepth 100000 in
theorem sU_cd : Cond.code ⟨"java/lang/AbstractStringBuilder", "length", "()I"⟩ prog_13_method_6_code 1 (some .int) ∈ lw_tbl := tk_in 4 _ (List.mem_of_getElem? (i := 110) rfl)
set_option maxRecDepth 100000 in
theorem sU_sup : Cond.superclass "java/lang/StringBuilder" "java/lang/AbstractStringBuilder" ∈ lw_tbl := tk_in 2 _ (List.mem_of_getElem? (i := 79) rfl)
def miM (e : MIt) : Cond := .sameMethod e.1.cls e.1.cls e.1.name e.1.desc
def MIsup : List MIt := (MI.zipIdx.filter (fun q => sSup.contains q.2)).map (fun q => q.1)
set_option maxRecDepth 1000000 in
theorem MI_sup : ∀ e ∈ MIsup, miM e ∈ lw_tbl := in_all (ps := [(4, 105), (10, 212), (10, 210), (10, 206), (10, 205), (10, 201)]) (by decide +kernel)
set_option maxRecDepth 100000 in
theorem hL_13 : Cond.classLink "FishGraderLaw" 13 "java/lang/IndexOutOfBoundsException" ∈ lw_tbl := tk_in 2 _ (List.mem_of_getElem? (i := 193) rfl)
set_option maxRecDepth 100000 in
theorem hL_15 : Cond.classLink "FishGraderLaw" 15 "java/lang/IllegalArgumentException" ∈ lw_tbl := tk_in 2 _ (List.mem_of_getElem? (i := 194) rfl)
set_option maxRecDepth 100000 in
theorem hL_20 : Cond.classLink "FishGraderLaw" 20 "java/lang/IllegalStateException" ∈ lw_tbl := tk_in 5 _ (List.mem_of_getElem? (i := 61) rfl)
set_option maxRecDepth 100000 in
theorem hL_135 : Cond.classLink "FishGraderLaw" 135 "java/util/NoSuchElementException" ∈ lw_tbl := tk_in 7 _ (List.mem_of_getElem? (i := 81) rfl)
set_option maxRecDepth 100000 in
theorem hC_1 : Cond.castable "java/lang/IndexOutOfBoundsException" "java/lang/IndexOutOfBoundsException" ∈ lw_tbl := tk_in 2 _ (List.mem_of_getElem? (i := 201) rfl)
set_option maxRecDepth 100000 in
theorem hC_2 : Cond.castable "java/lang/IllegalArgumentException" "java/lang/IllegalArgumentException" ∈ lw_tbl := tk_in 4 _ (List.mem_of_getElem? (i := 123) rfl)
set_option maxRecDepth 100000 in
theorem hC_0 : Cond.castable "java/lang/IllegalStateException" "java/lang/IllegalStateException" ∈ lw_tbl := tk_in 5 _ (List.mem_of_getElem? (i := 76) rfl)
set_option maxRecDepth 100000 in
theorem hC_3 : Cond.castable "java/util/NoSuchElementException" "java/util/NoSuchElementException" ∈ lw_tbl := tk_in 7 _ (List.mem_of_getElem? (i := 88) rfl)
