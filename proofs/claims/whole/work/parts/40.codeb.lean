-- FishGrader.speciesCount ()I
abbrev e_118 : MIt := (⟨"FishGrader", "speciesCount", "()I"⟩, prog_1_method_10_code, 1, (some .int), 0, 0, 7, 0)
def k_118_0 : List Rw := [(.aload_n 0, 1, 0, 0, .null, .int, 0), (.getfield 23, 4, 7, 4, .null, .boolean, 4), (.ifCond .eq 13, 7, 17, 0, .null, .int, 0), (.aload_n 0, 8, 0, 0, .null, .int, 0), (.getfield 30, 11, 7, 5, .null, (.object "FishGrader$Setup"), 5), (.getfield 117, 14, 4, 11, .null, .int, 40), (.goto 4, 17, 18, 0, .null, .int, 0)]
def k_118_17 : List Rw := [(.iconst 0, 18, 0, 0, .int (0), .int, 0)]
def k_118_18 : List Rw := [(.ireturn, 19, 0, 0, .null, .int, 0)]
def bl_118 : List (Nat × List Rw × Nat) := [(0, k_118_0, 99999), (17, k_118_17, 18), (18, k_118_18, 99999)]
set_option maxRecDepth 1000000 in
theorem ok_118 : bl_118.all (fun b => rowsB e_118 b.1 b.2.1 b.2.2) = true := by decide +kernel
-- FishGraderModel.speciesCount ()I
abbrev e_119 : MIt := (⟨"FishGraderModel", "speciesCount", "()I"⟩, prog_11_method_48_code, 1, (some .int), 0, 0, 8, 0)
def k_119_0 : List Rw := [(.aload_n 0, 1, 0, 0, .null, .int, 0), (.iconst 0, 2, 0, 0, .int (0), .int, 0), (.putfield 51, 5, 8, 0, .null, .int, 29), (.aload_n 0, 6, 0, 0, .null, .int, 0), (.getfield 228, 9, 8, 21, .null, .boolean, 41), (.ifCond .eq 13, 12, 22, 0, .null, .int, 0), (.aload_n 0, 13, 0, 0, .null, .int, 0), (.getfield 17, 16, 8, 11, .null, (.array .int), 17), (.bipush 7, 18, 0, 0, .int (7), .int, 0), (.iaload, 19, 0, 0, .null, .int, 0), (.goto 4, 22, 23, 0, .null, .int, 0)]
def k_119_22 : List Rw := [(.iconst 0, 23, 0, 0, .int (0), .int, 0)]
def k_119_23 : List Rw := [(.ireturn, 24, 0, 0, .null, .int, 0)]
def bl_119 : List (Nat × List Rw × Nat) := [(0, k_119_0, 99999), (22, k_119_22, 23), (23, k_119_23, 99999)]
set_option maxRecDepth 1000000 in
theorem ok_119 : bl_119.all (fun b => rowsB e_119 b.1 b.2.1 b.2.2) = true := by decide +kernel
-- FishGrader.items ()I
abbrev e_120 : MIt := (⟨"FishGrader", "items", "()I"⟩, prog_1_method_9_code, 1, (some .int), 0, 0, 7, 0)
def k_120_0 : List Rw := [(.aload_n 0, 1, 0, 0, .null, .int, 0), (.getfield 23, 4, 7, 4, .null, .boolean, 4), (.ifCond .eq 16, 7, 20, 0, .null, .int, 0), (.aload_n 0, 8, 0, 0, .null, .int, 0), (.getfield 40, 11, 7, 7, .null, (.object "FishGrader$State"), 7), (.getfield 108, 14, 5, 12, .null, (.object "FishGrader$Items"), 32), (.getfield 112, 17, 1, 0, .null, .int, 42), (.goto 4, 20, 21, 0, .null, .int, 0)]
def k_120_20 : List Rw := [(.iconst 0, 21, 0, 0, .int (0), .int, 0)]
def k_120_21 : List Rw := [(.ireturn, 22, 0, 0, .null, .int, 0)]
def bl_120 : List (Nat × List Rw × Nat) := [(0, k_120_0, 99999), (20, k_120_20, 21), (21, k_120_21, 99999)]
set_option maxRecDepth 1000000 in
theorem ok_120 : bl_120.all (fun b => rowsB e_120 b.1 b.2.1 b.2.2) = true := by decide +kernel
-- FishGraderModel.items ()I
abbrev e_121 : MIt := (⟨"FishGraderModel", "items", "()I"⟩, prog_11_method_47_code, 1, (some .int), 1, 0, 8, 0)
def k_121_0 : List Rw := [(.aload_n 0, 1, 0, 0, .null, .int, 0), (.bipush 9, 3, 0, 0, .int (9), .int, 0), (.invokevirtual 279, 6, 201, 2, .ref 8, .int, 200), (.ireturn, 7, 0, 0, .null, .int, 0)]
def bl_121 : List (Nat × List Rw × Nat) := [(0, k_121_0, 99999)]
set_option maxRecDepth 1000000 in
theorem ok_121 : bl_121.all (fun b => rowsB e_121 b.1 b.2.1 b.2.2) = true := by decide +kernel
-- FishGrader.buffered ()I
abbrev e_122 : MIt := (⟨"FishGrader", "buffered", "()I"⟩, prog_1_method_8_code, 1, (some .int), 0, 0, 7, 0)
def k_122_0 : List Rw := [(.aload_n 0, 1, 0, 0, .null, .int, 0), (.getfield 13, 4, 7, 1, .null, .int, 1), (.ireturn, 5, 0, 0, .null, .int, 0)]
def bl_122 : List (Nat × List Rw × Nat) := [(0, k_122_0, 99999)]
set_option maxRecDepth 1000000 in
theorem ok_122 : bl_122.all (fun b => rowsB e_122 b.1 b.2.1 b.2.2) = true := by decide +kernel
-- FishGraderModel.buffered ()I
abbrev e_123 : MIt := (⟨"FishGraderModel", "buffered", "()I"⟩, prog_11_method_7_code, 1, (some .int), 0, 0, 8, 0)
def k_123_0 : List Rw := [(.aload_n 0, 1, 0, 0, .null, .int, 0), (.iconst 0, 2, 0, 0, .int (0), .int, 0), (.putfield 51, 5, 8, 0, .null, .int, 29), (.aload_n 0, 6, 0, 0, .null, .int, 0), (.getfield 54, 9, 8, 2, .null, .int, 43), (.ireturn, 10, 0, 0, .null, .int, 0)]
def bl_123 : List (Nat × List Rw × Nat) := [(0, k_123_0, 99999)]
set_option maxRecDepth 1000000 in
theorem ok_123 : bl_123.all (fun b => rowsB e_123 b.1 b.2.1 b.2.2) = true := by decide +kernel
-- FishGrader.errorPosition ()I
abbrev e_124 : MIt := (⟨"FishGrader", "errorPosition", "()I"⟩, prog_1_method_7_code, 1, (some .int), 0, 0, 7, 0)
def k_124_0 : List Rw := [(.aload_n 0, 1, 0, 0, .null, .int, 0), (.getfield 20, 4, 7, 3, .null, .int, 3), (.ireturn, 5, 0, 0, .null, .int, 0)]
def bl_124 : List (Nat × List Rw × Nat) := [(0, k_124_0, 99999)]
set_option maxRecDepth 1000000 in
theorem ok_124 : bl_124.all (fun b => rowsB e_124 b.1 b.2.1 b.2.2) = true := by decide +kernel
-- FishGraderModel.errorPosition ()I
abbrev e_125 : MIt := (⟨"FishGraderModel", "errorPosition", "()I"⟩, prog_11_method_9_code, 1, (some .int), 0, 0, 8, 0)
def k_125_0 : List Rw := [(.aload_n 0, 1, 0, 0, .null, .int, 0), (.iconst 0, 2, 0, 0, .int (0), .int, 0), (.putfield 51, 5, 8, 0, .null, .int, 29), (.aload_n 0, 6, 0, 0, .null, .int, 0), (.getfield 13, 9, 8, 6, .null, .int, 16), (.ireturn, 10, 0, 0, .null, .int, 0)]
def bl_125 : List (Nat × List Rw × Nat) := [(0, k_125_0, 99999)]
set_option maxRecDepth 1000000 in
theorem ok_125 : bl_125.all (fun b => rowsB e_125 b.1 b.2.1 b.2.2) = true := by decide +kernel
-- FishGrader.parseError ()I
abbrev e_126 : MIt := (⟨"FishGrader", "parseError", "()I"⟩, prog_1_method_6_code, 1, (some .int), 0, 0, 7, 0)
def k_126_0 : List Rw := [(.aload_n 0, 1, 0, 0, .null, .int, 0), (.getfield 17, 4, 7, 2, .null, .int, 2), (.ireturn, 5, 0, 0, .null, .int, 0)]
def bl_126 : List (Nat × List Rw × Nat) := [(0, k_126_0, 99999)]
set_option maxRecDepth 1000000 in
theorem ok_126 : bl_126.all (fun b => rowsB e_126 b.1 b.2.1 b.2.2) = true := by decide +kernel
-- FishGraderModel.parseError ()I
abbrev e_127 : MIt := (⟨"FishGraderModel", "parseError", "()I"⟩, prog_11_method_8_code, 1, (some .int), 0, 0, 8, 0)
def k_127_0 : List Rw := [(.aload_n 0, 1, 0, 0, .null, .int, 0), (.iconst 0, 2, 0, 0, .int (0), .int, 0), (.putfield 51, 5, 8, 0, .null, .int, 29), (.aload_n 0, 6, 0, 0, .null, .int, 0), (.getfield 61, 9, 8, 5, .null, .int, 44), (.ireturn, 10, 0, 0, .null, .int, 0)]
def bl_127 : List (Nat × List Rw × Nat) := [(0, k_127_0, 99999)]
set_option maxRecDepth 1000000 in
theorem ok_127 : bl_127.all (fun b => rowsB e_127 b.1 b.2.1 b.2.2) = true := by decide +kernel
-- FishGraderLaw.load (LFishGrader;I[J)I
abbrev e_128 : MIt := (⟨"FishGraderLaw", "load", "(LFishGrader;I[J)I"⟩, method_3_code, 4, (some .int), 11, 3, 0, 3)
def k_128_0 : List Rw := [(.aload_n 2, 1, 2, 0, .null, .int, 0), (.iconst 0, 2, 0, 0, .int (0), .int, 0), (.aload_n 0, 3, 0, 0, .null, .int, 0), (.iload_n 1, 4, 1, 0, .null, .int, 0), (.invokevirtual 7, 7, 226, 2, .ref 7, .int, 225), (.i2l, 8, 0, 0, .null, .int, 0), (.lastore, 9, 0, 0, .null, .int, 0), (.goto 9, 12, 18, 0, .null, .int, 0)]
def k_128_13 : List Rw := [(.iconst 1, 14, 0, 0, .int (1), .int, 0), (.ireturn, 15, 0, 0, .null, .int, 0)]
def k_128_16 : List Rw := [(.iconst 2, 17, 0, 0, .int (2), .int, 0), (.ireturn, 18, 0, 0, .null, .int, 0)]
def k_128_18 : List Rw := [(.iconst 0, 19, 0, 0, .int (0), .int, 0), (.ireturn, 20, 0, 0, .null, .int, 0)]
def bl_128 : List (Nat × List Rw × Nat) := [(0, k_128_0, 99999), (13, k_128_13, 99999), (16, k_128_16, 99999), (18, k_128_18, 99999)]
set_option maxRecDepth 1000000 in
theorem ok_128 : bl_128.all (fun b => rowsB e_128 b.1 b.2.1 b.2.2) = true := by decide +kernel
-- FishGraderModel.load (I)I
abbrev e_129 : MIt := (⟨"FishGraderModel", "load", "(I)I"⟩, prog_11_method_30_code, 3, (some .int), 8, 0, 8, 1)
def k_129_0 : List Rw := [(.aload_n 0, 1, 0, 0, .null, .int, 0), (.iconst 0, 2, 0, 0, .int (0), .int, 0), (.putfield 51, 5, 8, 0, .null, .int, 29), (.iload_n 1, 6, 1, 0, .null, .int, 0), (.iconst 0, 7, 0, 0, .int (0), .int, 0), (.aload_n 0, 8, 0, 0, .null, .int, 0), (.getfield 54, 11, 8, 2, .null, .int, 43), (.invokestatic 84, 14, 136, 3, .null, .int, 135), (.ifCond .ne 9, 17, 23, 0, .null, .int, 0), (.aload_n 0, 18, 0, 0, .null, .int, 0), (.iconst 1, 19, 0, 0, .int (1), .int, 0), (.invokevirtual 218, 22, 156, 2, .ref 8, .int, 155), (.ireturn, 23, 0, 0, .null, .int, 0)]
def k_129_23 : List Rw := [(.aload_n 0, 24, 0, 0, .null, .int, 0), (.iload_n 1, 25, 1, 0, .null, .int, 0), (.putfield 64, 28, 8, 3, .null, .int, 45), (.aload_n 0, 29, 0, 0, .null, .int, 0), (.iconst 0, 30, 0, 0, .int (0), .int, 0), (.putfield 54, 33, 8, 2, .null, .int, 43), (.aload_n 0, 34, 0, 0, .null, .int, 0), (.iconst 0, 35, 0, 0, .int (0), .int, 0), (.putfield 70, 38, 8, 4, .null, .int, 46), (.aload_n 0, 39, 0, 0, .null, .int, 0), (.iconst 0, 40, 0, 0, .int (0), .int, 0), (.putfield 61, 43, 8, 5, .null, .int, 44), (.aload_n 0, 44, 0, 0, .null, .int, 0), (.iconst (-1), 45, 0, 0, .int (-1), .int, 0), (.putfield 13, 48, 8, 6, .null, .int, 16), (.aload_n 0, 49, 0, 0, .null, .int, 0), (.invokevirtual 221, 52, 227, 1, .ref 8, .int, 226), (.aload_n 0, 53, 0, 0, .null, .int, 0), (.getfield 61, 56, 8, 5, .null, .int, 44), (.ifCond .le 9, 59, 65, 0, .null, .int, 0), (.aload_n 0, 60, 0, 0, .null, .int, 0), (.iconst 2, 61, 0, 0, .int (2), .int, 0), (.invokevirtual 218, 64, 156, 2, .ref 8, .int, 155), (.ireturn, 65, 0, 0, .null, .int, 0)]
def k_129_65 : List Rw := [(.aload_n 0, 66, 0, 0, .null, .int, 0), (.getfield 33, 69, 8, 16, .null, (.array .int), 22), (.iconst 0, 70, 0, 0, .int (0), .int, 0), (.aload_n 0, 71, 0, 0, .null, .int, 0), (.getfield 30, 74, 8, 15, .null, (.array .int), 21), (.iconst 0, 75, 0, 0, .int (0), .int, 0), (.invokestatic 224, 78, 150, 4, .null, .int, 149), (.iconst 0, 79, 0, 0, .int (0), .int, 0), (.istore_n 2, 80, 2, 0, .null, .int, 0)]
def k_129_80 : List Rw := [(.iload_n 2, 81, 2, 0, .null, .int, 0), (.bipush 26, 83, 0, 0, .int (26), .int, 0), (.if_icmp .ge 21, 86, 104, 0, .null, .int, 0), (.aload_n 0, 87, 0, 0, .null, .int, 0), (.getfield 17, 90, 8, 11, .null, (.array .int), 17), (.iload_n 2, 91, 2, 0, .null, .int, 0), (.aload_n 0, 92, 0, 0, .null, .int, 0), (.getfield 20, 95, 8, 12, .null, (.array .int), 18), (.iload_n 2, 96, 2, 0, .null, .int, 0), (.iaload, 97, 0, 0, .null, .int, 0), (.iastore, 98, 0, 0, .null, .int, 0), (.iinc 2 1, 101, 2, 0, .int (1), .int, 0), (.goto (-21), 104, 80, 0, .null, .int, 0)]
def k_129_104 : List Rw := [(.iconst 0, 105, 0, 0, .int (0), .int, 0), (.istore_n 2, 106, 2, 0, .null, .int, 0)]
def k_129_106 : List Rw := [(.iload_n 2, 107, 2, 0, .null, .int, 0), (.iconst 4, 108, 0, 0, .int (4), .int, 0), (.if_icmp .ge 21, 111, 129, 0, .null, .int, 0), (.aload_n 0, 112, 0, 0, .null, .int, 0), (.getfield 23, 115, 8, 13, .null, (.array .long), 19), (.iload_n 2, 116, 2, 0, .null, .int, 0), (.aload_n 0, 117, 0, 0, .null, .int, 0), (.getfield 27, 120, 8, 14, .null, (.array .long), 20), (.iload_n 2, 121, 2, 0, .null, .int, 0), (.laload, 122, 0, 0, .null, .int, 0), (.lastore, 123, 0, 0, .null, .int, 0), (.iinc 2 1, 126, 2, 0, .int (1), .int, 0), (.goto (-20), 129, 106, 0, .null, .int, 0)]
def k_129_129 : List Rw := [(.aload_n 0, 130, 0, 0, .null, .int, 0), (.iconst 1, 131, 0, 0, .int (1), .int, 0), (.putfield 228, 134, 8, 21, .null, .boolean, 41), (.aload_n 0, 135, 0, 0, .null, .int, 0), (.iconst 0, 136, 0, 0, .int (0), .int, 0), (.putfield 231, 139, 8, 22, .null, .boolean, 30), (.aload_n 0, 140, 0, 0, .null, .int, 0), (.iconst 0, 141, 0, 0, .int (0), .int, 0), (.putfield 234, 144, 8, 20, .null, .int, 31), (.aload_n 0, 145, 0, 0, .null, .int, 0), (.getfield 30, 148, 8, 15, .null, (.array .int), 21), (.bipush 9, 150, 0, 0, .int (9), .int, 0), (.iaload, 151, 0, 0, .null, .int, 0), (.ireturn, 152, 0, 0, .null, .int, 0)]
def bl_129 : List (Nat × List Rw × Nat) := [(0, k_129_0, 99999), (23, k_129_23, 99999), (65, k_129_65, 80), (80, k_129_80, 99999), (104, k_129_104, 106), (106, k_129_106, 99999), (129, k_129_129, 99999)]
set_option maxRecDepth 1000000 in
theorem ok_129 : bl_129.all (fun b => rowsB e_129 b.1 b.2.1 b.2.2) = true := by decide +kernel
-- FishGrader.append (IIIII)I
abbrev e_130 : MIt := (⟨"FishGrader", "append", "(IIIII)I"⟩, prog_1_method_2_code, 6, (some .int), 1, 0, 7, 5)
def k_130_0 : List Rw := [(.aload_n 0, 1, 0, 0, .null, .int, 0), (.getfield 13, 4, 7, 1, .null, .int, 1), (.sipush 1480, 7, 0, 0, .int (1480), .int, 0), (.if_icmp .le 5, 10, 12, 0, .null, .int, 0), (.iconst (-1), 11, 0, 0, .int (-1), .int, 0), (.ireturn, 12, 0, 0, .null, .int, 0)]
def k_130_12 : List Rw := [(.aload_n 0, 13, 0, 0, .null, .int, 0), (.iload_n 1, 14, 1, 0, .null, .int, 0), (.invokevirtual 71, 17, 228, 2, .ref 7, .int, 227), (.aload_n 0, 18, 0, 0, .null, .int, 0), (.iload_n 2, 19, 2, 0, .null, .int, 0), (.invokevirtual 71, 22, 228, 2, .ref 7, .int, 227), (.aload_n 0, 23, 0, 0, .null, .int, 0), (.iload_n 3, 24, 3, 0, .null, .int, 0), (.invokevirtual 71, 27, 228, 2, .ref 7, .int, 227), (.aload_n 0, 28, 0, 0, .null, .int, 0), (.iload 4, 30, 4, 0, .null, .int, 0), (.invokevirtual 71, 33, 228, 2, .ref 7, .int, 227), (.aload_n 0, 34, 0, 0, .null, .int, 0), (.iload 5, 36, 5, 0, .null, .int, 0), (.invokevirtual 71, 39, 228, 2, .ref 7, .int, 227), (.aload_n 0, 40, 0, 0, .null, .int, 0), (.getfield 13, 43, 7, 1, .null, .int, 1), (.ireturn, 44, 0, 0, .null, .int, 0)]
def bl_130 : List (Nat × List Rw × Nat) := [(0, k_130_0, 99999), (12, k_130_12, 99999)]
set_option maxRecDepth 1000000 in
theorem ok_130 : bl_130.all (fun b => rowsB e_130 b.1 b.2.1 b.2.2) = true := by decide +kernel
-- FishGraderModel.append (IIIII)I
abbrev e_131 : MIt := (⟨"FishGraderModel", "append", "(IIIII)I"⟩, prog_11_method_6_code, 6, (some .int), 1, 0, 8, 5)
def k_131_0 : List Rw := [(.aload_n 0, 1, 0, 0, .null, .int, 0), (.iconst 0, 2, 0, 0, .int (0), .int, 0), (.putfield 51, 5, 8, 0, .null, .int, 29), (.aload_n 0, 6, 0, 0, .null, .int, 0), (.getfield 54, 9, 8, 2, .null, .int, 43), (.bipush 20, 11, 0, 0, .int (20), .int, 0), (.iadd, 12, 0, 0, .null, .int, 0), (.sipush 1500, 15, 0, 0, .int (1500), .int, 0), (.if_icmp .le 5, 18, 20, 0, .null, .int, 0), (.iconst (-1), 19, 0, 0, .int (-1), .int, 0), (.ireturn, 20, 0, 0, .null, .int, 0)]
def k_131_20 : List Rw := [(.aload_n 0, 21, 0, 0, .null, .int, 0), (.iload_n 1, 22, 1, 0, .null, .int, 0), (.invokevirtual 57, 25, 229, 2, .ref 8, .int, 228), (.aload_n 0, 26, 0, 0, .null, .int, 0), (.iload_n 2, 27, 2, 0, .null, .int, 0), (.invokevirtual 57, 30, 229, 2, .ref 8, .int, 228), (.aload_n 0, 31, 0, 0, .null, .int, 0), (.iload_n 3, 32, 3, 0, .null, .int, 0), (.invokevirtual 57, 35, 229, 2, .ref 8, .int, 228), (.aload_n 0, 36, 0, 0, .null, .int, 0), (.iload 4, 38, 4, 0, .null, .int, 0), (.invokevirtual 57, 41, 229, 2, .ref 8, .int, 228), (.aload_n 0, 42, 0, 0, .null, .int, 0), (.iload 5, 44, 5, 0, .null, .int, 0), (.invokevirtual 57, 47, 229, 2, .ref 8, .int, 228), (.aload_n 0, 48, 0, 0, .null, .int, 0), (.getfield 54, 51, 8, 2, .null, .int, 43), (.ireturn, 52, 0, 0, .null, .int, 0)]
def bl_131 : List (Nat × List Rw × Nat) := [(0, k_131_0, 99999), (20, k_131_20, 99999)]
set_option maxRecDepth 1000000 in
theorem ok_131 : bl_131.all (fun b => rowsB e_131 b.1 b.2.1 b.2.2) = true := by decide +kernel
-- FishGrader$Setup.<init> ()V
abbrev e_132 : MIt := (⟨"FishGrader$Setup", "<init>", "()V"⟩, prog_6_method_1_code, 1, none, 1, 2, 4, 0)
def k_132_0 : List Rw := [(.aload_n 0, 1, 0, 0, .null, .int, 0), (.invokespecial 3, 4, 0, 0, .int 1, .int, 2), (.aload_n 0, 5, 0, 0, .null, .int, 0), (.iconst 1, 6, 0, 0, .int (1), .int, 0), (.putfield 9, 9, 4, 0, .null, .int, 47), (.aload_n 0, 10, 0, 0, .null, .int, 0), (.iconst 0, 11, 0, 0, .int (0), .int, 0), (.putfield 15, 14, 4, 1, .null, .int, 48), (.aload_n 0, 15, 0, 0, .null, .int, 0), (.iconst 0, 16, 0, 0, .int (0), .int, 0), (.putfield 18, 19, 4, 2, .null, .int, 49), (.aload_n 0, 20, 0, 0, .null, .int, 0), (.iconst 0, 21, 0, 0, .int (0), .int, 0), (.putfield 21, 24, 4, 3, .null, .int, 50), (.aload_n 0, 25, 0, 0, .null, .int, 0), (.iconst 0, 26, 0, 0, .int (0), .int, 0), (.putfield 24, 29, 4, 4, .null, .int, 51), (.aload_n 0, 30, 0, 0, .null, .int, 0), (.iconst 0, 31, 0, 0, .int (0), .int, 0), (.putfield 27, 34, 4, 5, .null, .int, 52), (.aload_n 0, 35, 0, 0, .null, .int, 0), (.iconst 0, 36, 0, 0, .int (0), .int, 0), (.putfield 30, 39, 4, 6, .null, .int, 53), (.aload_n 0, 40, 0, 0, .null, .int, 0), (.iconst 0, 41, 0, 0, .int (0), .int, 0), (.putfield 33, 44, 4, 7, .null, .int, 54), (.aload_n 0, 45, 0, 0, .null, .int, 0), (.iconst 0, 46, 0, 0, .int (0), .int, 0), (.putfield 36, 49, 4, 8, .null, .int, 55), (.aload_n 0, 50, 0, 0, .null, .int, 0), (.iconst 4, 51, 0, 0, .int (4), .int, 0), (.newarray .int, 53, 0, 0, .null, .int, 0), (.putfield 39, 56, 4, 9, .null, (.array .int), 56), (.aload_n 0, 57, 0, 0, .null, .int, 0), (.iconst 4, 58, 0, 0, .int (4), .int, 0), (.newarray .int, 60, 0, 0, .null, .int, 0), (.putfield 43, 63, 4, 10, .null, (.array .int), 57), (.aload_n 0, 64, 0, 0, .null, .int, 0), (.iconst 0, 65, 0, 0, .int (0), .int, 0), (.putfield 46, 68, 4, 11, .null, .int, 58), (.aload_n 0, 69, 0, 0, .null, .int, 0), (.new 49, 72, 2, 3, .null, .int, 5), (.dup, 73, 0, 0, .null, .int, 0), (.invokespecial 51, 76, 230, 1, .null, .int, 229), (.putfield 52, 79, 4, 12, .null, (.object "FishGrader$Kind"), 59), (.aload_n 0, 80, 0, 0, .null, .int, 0), (.new 49, 83, 2, 3, .null, .int, 5), (.dup, 84, 0, 0, .null, .int, 0), (.invokespecial 51, 87, 230, 1, .null, .int, 229), (.putfield 56, 90, 4, 13, .null, (.object "FishGrader$Kind"), 60), (.aload_n 0, 91, 0, 0, .null, .int, 0), (.new 49, 94, 2, 3, .null, .int, 5), (.dup, 95, 0, 0, .null, .int, 0), (.invokespecial 51, 98, 230, 1, .null, .int, 229), (.putfield 59, 101, 4, 14, .null, (.object "FishGrader$Kind"), 61), (.aload_n 0, 102, 0, 0, .null, .int, 0), (.new 49, 105, 2, 3, .null, .int, 5), (.dup, 106, 0, 0, .null, .int, 0), (.invokespecial 51, 109, 230, 1, .null, .int, 229), (.putfield 62, 112, 4, 15, .null, (.object "FishGrader$Kind"), 62), (.return_, 113, 0, 0, .null, .int, 0)]
def bl_132 : List (Nat × List Rw × Nat) := [(0, k_132_0, 99999)]
set_option maxRecDepth 1000000 in
theorem ok_132 : bl_132.all (fun b => rowsB e_132 b.1 b.2.1 b.2.2) = true := by decide +kernel
-- FishGrader$State.<init> ()V
abbrev e_133 : MIt := (⟨"FishGrader$State", "<init>", "()V"⟩, prog_7_method_1_code, 1, none, 1, 2, 5, 0)
def k_133_0 : List Rw := [(.aload_n 0, 1, 0, 0, .null, .int, 0), (.invokespecial 3, 4, 0, 0, .int 1, .int, 3), (.aload_n 0, 5, 0, 0, .null, .int, 0), (.iconst 0, 6, 0, 0, .int (0), .int, 0), (.putfield 9, 9, 5, 0, .null, .int, 63), (.aload_n 0, 10, 0, 0, .null, .int, 0), (.iconst 0, 11, 0, 0, .int (0), .int, 0), (.putfield 15, 14, 5, 1, .null, .int, 64), (.aload_n 0, 15, 0, 0, .null, .int, 0), (.iconst 0, 16, 0, 0, .int (0), .int, 0), (.putfield 18, 19, 5, 2, .null, .int, 65), (.aload_n 0, 20, 0, 0, .null, .int, 0), (.iconst 0, 21, 0, 0, .int (0), .int, 0), (.putfield 21, 24, 5, 3, .null, .int, 66), (.aload_n 0, 25, 0, 0, .null, .int, 0), (.iconst 0, 26, 0, 0, .int (0), .int, 0), (.putfield 24, 29, 5, 4, .null, .int, 67), (.aload_n 0, 30, 0, 0, .null, .int, 0), (.iconst 0, 31, 0, 0, .int (0), .int, 0), (.putfield 27, 34, 5, 5, .null, .int, 68), (.aload_n 0, 35, 0, 0, .null, .int, 0), (.bipush 10, 37, 0, 0, .int (10), .int, 0), (.newarray .int, 39, 0, 0, .null, .int, 0), (.putfield 30, 42, 5, 6, .null, (.array .int), 69), (.aload_n 0, 43, 0, 0, .null, .int, 0), (.iconst 4, 44, 0, 0, .int (4), .int, 0), (.newarray .int, 46, 0, 0, .null, .int, 0), (.putfield 34, 49, 5, 7, .null, (.array .int), 70), (.aload_n 0, 50, 0, 0, .null, .int, 0), (.iconst 4, 51, 0, 0, .int (4), .int, 0), (.newarray .int, 53, 0, 0, .null, .int, 0), (.putfield 37, 56, 5, 8, .null, (.array .int), 71), (.aload_n 0, 57, 0, 0, .null, .int, 0), (.iconst 4, 58, 0, 0, .int (4), .int, 0), (.newarray .int, 60, 0, 0, .null, .int, 0), (.putfield 40, 63, 5, 9, .null, (.array .int), 72), (.aload_n 0, 64, 0, 0, .null, .int, 0), (.iconst 4, 65, 0, 0, .int (4), .int, 0), (.newarray .int, 67, 0, 0, .null, .int, 0), (.putfield 43, 70, 5, 10, .null, (.array .int), 73), (.aload_n 0, 71, 0, 0, .null, .int, 0), (.bipush 12, 73, 0, 0, .int (12), .int, 0), (.newarray .int, 75, 0, 0, .null, .int, 0), (.putfield 46, 78, 5, 11, .null, (.array .int), 74), (.aload_n 0, 79, 0, 0, .null, .int, 0), (.new 49, 82, 1, 7, .null, .int, 6), (.dup, 83, 0, 0, .null, .int, 0), (.invokespecial 51, 86, 231, 1, .null, .int, 230), (.putfield 52, 89, 5, 12, .null, (.object "FishGrader$Items"), 75), (.aload_n 0, 90, 0, 0, .null, .int, 0), (.new 56, 93, 0, 7, .null, .int, 7), (.dup, 94, 0, 0, .null, .int, 0), (.invokespecial 58, 97, 232, 1, .null, .int, 231), (.putfield 59, 100, 5, 13, .null, (.object "FishGrader$Boxes"), 76), (.return_, 101, 0, 0, .null, .int, 0)]
def bl_133 : List (Nat × List Rw × Nat) := [(0, k_133_0, 99999)]
set_option maxRecDepth 1000000 in
theorem ok_133 : bl_133.all (fun b => rowsB e_133 b.1 b.2.1 b.2.2) = true := by decide +kernel
-- java/lang/StringBuilder.<init> ()V
abbrev e_134 : MIt := (⟨"java/lang/StringBuilder", "<init>", "()V"⟩, prog_29_method_1_code, 1, none, 1, 2, 10, 0)
def k_134_0 : List Rw := [(.aload_n 0, 1, 0, 0, .null, .int, 0), (.bipush 16, 3, 0, 0, .int (16), .int, 0), (.invokespecial 1, 6, 233, 2, .null, .int, 232), (.return_, 7, 0, 0, .null, .int, 0)]
def bl_134 : List (Nat × List Rw × Nat) := [(0, k_134_0, 99999)]
set_option maxRecDepth 1000000 in
theorem ok_134 : bl_134.all (fun b => rowsB e_134 b.1 b.2.1 b.2.2) = true := by decide +kernel
-- FishGrader.labelByte (I)I
abbrev e_135 : MIt := (⟨"FishGrader", "labelByte", "(I)I"⟩, prog_1_method_75_code, 2, (some .int), 2, 0, 7, 1)
def k_135_0 : List Rw := [(.iload_n 1, 1, 1, 0, .null, .int, 0), (.ifCond .lt 14, 4, 15, 0, .null, .int, 0), (.iload_n 1, 5, 1, 0, .null, .int, 0), (.aload_n 0, 6, 0, 0, .null, .int, 0), (.getfield 63, 9, 7, 13, .null, (.object "java/lang/StringBuilder"), 13), (.invokevirtual 379, 12, 234, 1, .ref 10, .int, 233), (.if_icmp .lt 14, 15, 26, 0, .null, .int, 0)]
def k_135_15 : List Rw := [(.new 75, 18, 1, 1, .int 1, .int, 0)]
def k_135_26 : List Rw := [(.aload_n 0, 27, 0, 0, .null, .int, 0), (.getfield 63, 30, 7, 13, .null, (.object "java/lang/StringBuilder"), 13), (.iload_n 1, 31, 1, 0, .null, .int, 0), (.invokevirtual 389, 34, 235, 2, .ref 10, .int, 234), (.ireturn, 35, 0, 0, .null, .int, 0)]
def bl_135 : List (Nat × List Rw × Nat) := [(0, k_135_0, 15), (15, k_135_15, 99999), (26, k_135_26, 99999)]
set_option maxRecDepth 1000000 in
theorem ok_135 : bl_135.all (fun b => rowsB e_135 b.1 b.2.1 b.2.2) = true := by decide +kernel
-- FishGraderModel.in (III)Z
abbrev e_136 : MIt := (⟨"FishGraderModel", "in", "(III)Z"⟩, prog_11_method_3_code, 3, (some .boolean), 0, 1, 8, 3)
def k_136_0 : List Rw := [(.iload_n 0, 1, 0, 0, .null, .int, 0), (.iload_n 1, 2, 1, 0, .null, .int, 0), (.if_icmp .lt 12, 5, 14, 0, .null, .int, 0), (.iload_n 0, 6, 0, 0, .null, .int, 0), (.iload_n 2, 7, 2, 0, .null, .int, 0), (.if_icmp .gt 7, 10, 14, 0, .null, .int, 0), (.iconst 1, 11, 0, 0, .int (1), .int, 0), (.goto 4, 14, 15, 0, .null, .int, 0)]
def k_136_14 : List Rw := [(.iconst 0, 15, 0, 0, .int (0), .int, 0)]
def k_136_15 : List Rw := [(.ireturn, 16, 0, 0, .null, .int, 0)]
def bl_136 : List (Nat × List Rw × Nat) := [(0, k_136_0, 99999), (14, k_136_14, 15), (15, k_136_15, 99999)]
set_option maxRecDepth 1000000 in
theorem ok_136 : bl_136.all (fun b => rowsB e_136 b.1 b.2.1 b.2.2) = true := by decide +kernel
-- FishGrader.report ()I
abbrev e_137 : MIt := (⟨"FishGrader", "report", "()I"⟩, prog_1_method_73_code, 2, (some .int), 6, 0, 7, 0)
def k_137_0 : List Rw := [(.aload_n 0, 1, 0, 0, .null, .int, 0), (.invokevirtual 177, 4, 236, 1, .ref 7, .int, 235), (.aload_n 0, 5, 0, 0, .null, .int, 0), (.getfield 63, 8, 7, 13, .null, (.object "java/lang/StringBuilder"), 13), (.iconst 0, 9, 0, 0, .int (0), .int, 0), (.invokevirtual 353, 12, 237, 2, .ref 10, .int, 236), (.iconst 0, 13, 0, 0, .int (0), .int, 0), (.istore_n 1, 14, 1, 0, .null, .int, 0)]
def k_137_14 : List Rw := [(.iload_n 1, 15, 1, 0, .null, .int, 0), (.aload_n 0, 16, 0, 0, .null, .int, 0), (.getfield 30, 19, 7, 5, .null, (.object "FishGrader$Setup"), 5), (.getfield 117, 22, 4, 11, .null, .int, 40), (.if_icmp .ge 14, 25, 36, 0, .null, .int, 0), (.aload_n 0, 26, 0, 0, .null, .int, 0), (.iload_n 1, 27, 1, 0, .null, .int, 0), (.invokevirtual 382, 30, 238, 2, .ref 7, .int, 237), (.iinc 1 1, 33, 1, 0, .int (1), .int, 0), (.goto (-19), 36, 14, 0, .null, .int, 0)]
def k_137_36 : List Rw := [(.aload_n 0, 37, 0, 0, .null, .int, 0), (.getfield 63, 40, 7, 13, .null, (.object "java/lang/StringBuilder"), 13), (.ldc_w 385, 43, 0, 1, .ref 6, .int, 3), (.invokevirtual 366, 46, 239, 2, .ref 10, .int, 238), (.aload_n 0, 47, 0, 0, .null, .int, 0), (.getfield 40, 50, 7, 7, .null, (.object "FishGrader$State"), 7), (.getfield 156, 53, 5, 13, .null, (.object "FishGrader$Boxes"), 38), (.getfield 160, 56, 0, 0, .null, .int, 39), (.invokevirtual 373, 59, 240, 2, .ref 10, .int, 239), (.pop, 60, 0, 0, .null, .int, 0), (.aload_n 0, 61, 0, 0, .null, .int, 0), (.getfield 63, 64, 7, 13, .null, (.object "java/lang/StringBuilder"), 13), (.bipush 32, 66, 0, 0, .int (32), .int, 0), (.invokevirtual 370, 69, 241, 2, .ref 10, .int, 240), (.aload_n 0, 70, 0, 0, .null, .int, 0), (.getfield 40, 73, 7, 7, .null, (.object "FishGrader$State"), 7), (.aload_n 0, 74, 0, 0, .null, .int, 0), (.getfield 30, 77, 7, 5, .null, (.object "FishGrader$Setup"), 5), (.invokevirtual 269, 80, 242, 2, .ref 5, .int, 241), (.invokevirtual 373, 83, 240, 2, .ref 10, .int, 239), (.pop, 84, 0, 0, .null, .int, 0), (.aload_n 0, 85, 0, 0, .null, .int, 0), (.getfield 63, 88, 7, 13, .null, (.object "java/lang/StringBuilder"), 13), (.invokevirtual 379, 91, 234, 1, .ref 10, .int, 233), (.ireturn, 92, 0, 0, .null, .int, 0)]
def bl_137 : List (Nat × List Rw × Nat) := [(0, k_137_0, 14), (14, k_137_14, 99999), (36, k_137_36, 99999)]
set_option maxRecDepth 1000000 in
theorem ok_137 : bl_137.all (fun b => rowsB e_137 b.1 b.2.1 b.2.2) = true := by decide +kernel
-- FishGraderModel.mayAsk (Z)Z
abbrev e_138 : MIt := (⟨"FishGraderModel", "mayAsk", "(Z)Z"⟩, prog_11_method_49_code, 2, (some .boolean), 0, 0, 8, 1)
def k_138_0 : List Rw := [(.aload_n 0, 1, 0, 0, .null, .int, 0), (.aload_n 0, 2, 0, 0, .null, .int, 0), (.getfield 228, 5, 8, 21, .null, .boolean, 41), (.ifCond .ne 7, 8, 12, 0, .null, .int, 0), (.iconst 1, 9, 0, 0, .int (1), .int, 0), (.goto 12, 12, 21, 0, .null, .int, 0)]
def k_138_12 : List Rw := [(.iload_n 1, 13, 1, 0, .null, .int, 0), (.ifCond .eq 7, 16, 20, 0, .null, .int, 0), (.iconst 0, 17, 0, 0, .int (0), .int, 0), (.goto 4, 20, 21, 0, .null, .int, 0)]
def k_138_20 : List Rw := [(.iconst 2, 21, 0, 0, .int (2), .int, 0)]
def k_138_21 : List Rw := [(.putfield 51, 24, 8, 0, .null, .int, 29), (.aload_n 0, 25, 0, 0, .null, .int, 0), (.getfield 51, 28, 8, 0, .null, .int, 29), (.ifCond .ne 7, 31, 35, 0, .null, .int, 0), (.iconst 1, 32, 0, 0, .int (1), .int, 0), (.goto 4, 35, 36, 0, .null, .int, 0)]
def k_138_35 : List Rw := [(.iconst 0, 36, 0, 0, .int (0), .int, 0)]
def k_138_36 : List Rw := [(.ireturn, 37, 0, 0, .null, .int, 0)]
def bl_138 : List (Nat × List Rw × Nat) := [(0, k_138_0, 99999), (12, k_138_12, 99999), (20, k_138_20, 21), (21, k_138_21, 99999), (35, k_138_35, 36), (36, k_138_36, 99999)]
set_option maxRecDepth 1000000 in
theorem ok_138 : bl_138.all (fun b => rowsB e_138 b.1 b.2.1 b.2.2) = true := by decide +kernel
-- FishGraderModel.writes (I)V
abbrev e_139 : MIt := (⟨"FishGraderModel", "writes", "(I)V"⟩, prog_11_method_126_code, 2, none, 0, 0, 8, 1)
def k_139_0 : List Rw := [(.aload_n 0, 1, 0, 0, .null, .int, 0), (.getfield 48, 4, 8, 25, .null, (.array .int), 27), (.aload_n 0, 5, 0, 0, .null, .int, 0), (.getfield 363, 8, 8, 26, .null, .int, 28), (.iload_n 1, 9, 1, 0, .null, .int, 0), (.iastore, 10, 0, 0, .null, .int, 0), (.aload_n 0, 11, 0, 0, .null, .int, 0), (.dup, 12, 0, 0, .null, .int, 0), (.getfield 363, 15, 8, 26, .null, .int, 28), (.iconst 1, 16, 0, 0, .int (1), .int, 0), (.iadd, 17, 0, 0, .null, .int, 0), (.putfield 363, 20, 8, 26, .null, .int, 28), (.return_, 21, 0, 0, .null, .int, 0)]
def bl_139 : List (Nat × List Rw × Nat) := [(0, k_139_0, 99999)]
set_option maxRecDepth 1000000 in
theorem ok_139 : bl_139.all (fun b => rowsB e_139 b.1 b.2.1 b.2.2) = true := by decide +kernel
-- FishGraderModel.writesName (J)V
abbrev e_140 : MIt := (⟨"FishGraderModel", "writesName", "(J)V"⟩, prog_11_method_128_code, 5, none, 1, 0, 8, 1)
def k_140_0 : List Rw := [(.bipush 40, 2, 0, 0, .int (40), .int, 0), (.istore_n 3, 3, 3, 0, .null, .int, 0)]
def k_140_3 : List Rw := [(.iload_n 3, 4, 3, 0, .null, .int, 0), (.ifCond .lt 33, 7, 37, 0, .null, .int, 0), (.lload_n 1, 8, 1, 0, .null, .int, 0), (.iload_n 3, 9, 3, 0, .null, .int, 0), (.lshr, 10, 0, 0, .null, .int, 0), (.ldc2_w 369, 13, 0, 0, .long (31), .int, 0), (.land, 14, 0, 0, .null, .int, 0), (.l2i, 15, 0, 0, .null, .int, 0), (.istore 4, 17, 4, 0, .null, .int, 0), (.iload 4, 19, 4, 0, .null, .int, 0), (.ifCond .le 12, 22, 31, 0, .null, .int, 0), (.aload_n 0, 23, 0, 0, .null, .int, 0), (.bipush 96, 25, 0, 0, .int (96), .int, 0), (.iload 4, 27, 4, 0, .null, .int, 0), (.iadd, 28, 0, 0, .null, .int, 0), (.invokevirtual 366, 31, 139, 2, .ref 8, .int, 138)]
def k_140_31 : List Rw := [(.iinc 3 (-5), 34, 3, 0, .int (-5), .int, 0), (.goto (-31), 37, 3, 0, .null, .int, 0)]
def k_140_37 : List Rw := [(.return_, 38, 0, 0, .null, .int, 0)]
def bl_140 : List (Nat × List Rw × Nat) := [(0, k_140_0, 3), (3, k_140_3, 31), (31, k_140_31, 99999), (37, k_140_37, 99999)]
set_option maxRecDepth 1000000 in
theorem ok_140 : bl_140.all (fun b => rowsB e_140 b.1 b.2.1 b.2.2) = true := by decide +kernel
-- FishGraderModel.boxes ([III)I
abbrev e_141 : MIt := (⟨"FishGraderModel", "boxes", "([III)I"⟩, prog_11_method_88_code, 5, (some .int), 0, 1, 8, 3)
def k_141_0 : List Rw := [(.iconst 0, 1, 0, 0, .int (0), .int, 0), (.istore_n 3, 2, 3, 0, .null, .int, 0), (.iload_n 1, 3, 1, 0, .null, .int, 0), (.istore 4, 5, 4, 0, .null, .int, 0)]
def k_141_5 : List Rw := [(.iload 4, 7, 4, 0, .null, .int, 0), (.aload_n 0, 8, 0, 0, .null, .int, 0), (.bipush 8, 10, 0, 0, .int (8), .int, 0), (.iaload, 11, 0, 0, .null, .int, 0), (.if_icmp .ge 34, 14, 45, 0, .null, .int, 0), (.iload_n 3, 15, 3, 0, .null, .int, 0), (.iload_n 2, 16, 2, 0, .null, .int, 0), (.iconst (-1), 17, 0, 0, .int (-1), .int, 0), (.if_icmp .eq 15, 20, 32, 0, .null, .int, 0), (.aload_n 0, 21, 0, 0, .null, .int, 0), (.sipush 688, 24, 0, 0, .int (688), .int, 0), (.iload 4, 26, 4, 0, .null, .int, 0), (.iadd, 27, 0, 0, .null, .int, 0), (.iaload, 28, 0, 0, .null, .int, 0), (.iload_n 2, 29, 2, 0, .null, .int, 0), (.if_icmp .ne 7, 32, 36, 0, .null, .int, 0)]
def k_141_32 : List Rw := [(.iconst 1, 33, 0, 0, .int (1), .int, 0), (.goto 4, 36, 37, 0, .null, .int, 0)]
def k_141_36 : List Rw := [(.iconst 0, 37, 0, 0, .int (0), .int, 0)]
def k_141_37 : List Rw := [(.iadd, 38, 0, 0, .null, .int, 0), (.istore_n 3, 39, 3, 0, .null, .int, 0), (.iinc 4 1, 42, 4, 0, .int (1), .int, 0), (.goto (-37), 45, 5, 0, .null, .int, 0)]
def k_141_45 : List Rw := [(.iload_n 3, 46, 3, 0, .null, .int, 0), (.ireturn, 47, 0, 0, .null, .int, 0)]
def bl_141 : List (Nat × List Rw × Nat) := [(0, k_141_0, 5), (5, k_141_5, 32), (32, k_141_32, 99999), (36, k_141_36, 37), (37, k_141_37, 99999), (45, k_141_45, 99999)]
set_option maxRecDepth 1000000 in
theorem ok_141 : bl_141.all (fun b => rowsB e_141 b.1 b.2.1 b.2.2) = true := by decide +kernel
-- FishGraderModel.writesNumber (I)V
abbrev e_142 : MIt := (⟨"FishGraderModel", "writesNumber", "(I)V"⟩, prog_11_method_127_code, 3, none, 1, 0, 8, 1)
def k_142_0 : List Rw := [(.iconst 1, 1, 0, 0, .int (1), .int, 0), (.istore_n 2, 2, 2, 0, .null, .int, 0)]
def k_142_2 : List Rw := [(.iload_n 1, 3, 1, 0, .null, .int, 0), (.iload_n 2, 4, 2, 0, .null, .int, 0), (.idiv, 5, 0, 0, .null, .int, 0), (.bipush 10, 7, 0, 0, .int (10), .int, 0), (.if_icmp .lt 11, 10, 18, 0, .null, .int, 0), (.iload_n 2, 11, 2, 0, .null, .int, 0), (.bipush 10, 13, 0, 0, .int (10), .int, 0), (.imul, 14, 0, 0, .null, .int, 0), (.istore_n 2, 15, 2, 0, .null, .int, 0), (.goto (-13), 18, 2, 0, .null, .int, 0)]
def k_142_18 : List Rw := [(.iload_n 2, 19, 2, 0, .null, .int, 0), (.ifCond .le 24, 22, 43, 0, .null, .int, 0), (.aload_n 0, 23, 0, 0, .null, .int, 0), (.bipush 48, 25, 0, 0, .int (48), .int, 0), (.iload_n 1, 26, 1, 0, .null, .int, 0), (.iload_n 2, 27, 2, 0, .null, .int, 0), (.idiv, 28, 0, 0, .null, .int, 0), (.bipush 10, 30, 0, 0, .int (10), .int, 0), (.irem, 31, 0, 0, .null, .int, 0), (.iadd, 32, 0, 0, .null, .int, 0), (.invokevirtual 366, 35, 139, 2, .ref 8, .int, 138), (.iload_n 2, 36, 2, 0, .null, .int, 0), (.bipush 10, 38, 0, 0, .int (10), .int, 0), (.idiv, 39, 0, 0, .null, .int, 0), (.istore_n 2, 40, 2, 0, .null, .int, 0), (.goto (-22), 43, 18, 0, .null, .int, 0)]
def k_142_43 : List Rw := [(.return_, 44, 0, 0, .null, .int, 0)]
def bl_142 : List (Nat × List Rw × Nat) := [(0, k_142_0, 2), (2, k_142_2, 99999), (18, k_142_18, 99999), (43, k_142_43, 99999)]
set_option maxRecDepth 1000000 in
theorem ok_142 : bl_142.all (fun b => rowsB e_142 b.1 b.2.1 b.2.2) = true := by decide +kernel
-- FishGraderModel.overs ([III)I
abbrev e_143 : MIt := (⟨"FishGraderModel", "overs", "([III)I"⟩, prog_11_method_87_code, 5, (some .int), 0, 1, 8, 3)
def k_143_0 : List Rw := [(.iconst 0, 1, 0, 0, .int (0), .int, 0), (.istore_n 3, 2, 3, 0, .null, .int, 0), (.iload_n 1, 3, 1, 0, .null, .int, 0), (.istore 4, 5, 4, 0, .null, .int, 0)]
def k_143_5 : List Rw := [(.iload 4, 7, 4, 0, .null, .int, 0), (.aload_n 0, 8, 0, 0, .null, .int, 0), (.bipush 8, 10, 0, 0, .int (8), .int, 0), (.iaload, 11, 0, 0, .null, .int, 0), (.if_icmp .ge 41, 14, 52, 0, .null, .int, 0), (.iload_n 3, 15, 3, 0, .null, .int, 0), (.iload_n 2, 16, 2, 0, .null, .int, 0), (.iconst (-1), 17, 0, 0, .int (-1), .int, 0), (.if_icmp .eq 15, 20, 32, 0, .null, .int, 0), (.aload_n 0, 21, 0, 0, .null, .int, 0), (.sipush 688, 24, 0, 0, .int (688), .int, 0), (.iload 4, 26, 4, 0, .null, .int, 0), (.iadd, 27, 0, 0, .null, .int, 0), (.iaload, 28, 0, 0, .null, .int, 0), (.iload_n 2, 29, 2, 0, .null, .int, 0), (.if_icmp .ne 14, 32, 43, 0, .null, .int, 0)]
def k_143_32 : List Rw := [(.aload_n 0, 33, 0, 0, .null, .int, 0), (.sipush 848, 36, 0, 0, .int (848), .int, 0), (.iload 4, 38, 4, 0, .null, .int, 0), (.iadd, 39, 0, 0, .null, .int, 0), (.iaload, 40, 0, 0, .null, .int, 0), (.goto 4, 43, 44, 0, .null, .int, 0)]
def k_143_43 : List Rw := [(.iconst 0, 44, 0, 0, .int (0), .int, 0)]
def k_143_44 : List Rw := [(.iadd, 45, 0, 0, .null, .int, 0), (.istore_n 3, 46, 3, 0, .null, .int, 0), (.iinc 4 1, 49, 4, 0, .int (1), .int, 0), (.goto (-44), 52, 5, 0, .null, .int, 0)]
def k_143_52 : List Rw := [(.iload_n 3, 53, 3, 0, .null, .int, 0), (.ireturn, 54, 0, 0, .null, .int, 0)]
def bl_143 : List (Nat × List Rw × Nat) := [(0, k_143_0, 5), (5, k_143_5, 32), (32, k_143_32, 99999), (43, k_143_43, 44), (44, k_143_44, 99999), (52, k_143_52, 99999)]
set_option maxRecDepth 1000000 in
theorem ok_143 : bl_143.all (fun b => rowsB e_143 b.1 b.2.1 b.2.2) = true := by decide +kernel
-- FishGraderModel.earned ([II)I
abbrev e_144 : MIt := (⟨"FishGraderModel", "earned", "([II)I"⟩, prog_11_method_92_code, 6, (some .int), 1, 0, 8, 2)
def k_144_0 : List Rw := [(.iconst 0, 1, 0, 0, .int (0), .int, 0), (.istore_n 3, 2, 3, 0, .null, .int, 0), (.iconst 0, 3, 0, 0, .int (0), .int, 0), (.istore 4, 5, 4, 0, .null, .int, 0)]
def k_144_5 : List Rw := [(.iload 4, 7, 4, 0, .null, .int, 0), (.aload_n 1, 8, 1, 0, .null, .int, 0), (.bipush 8, 10, 0, 0, .int (8), .int, 0), (.iaload, 11, 0, 0, .null, .int, 0), (.if_icmp .ge 74, 14, 85, 0, .null, .int, 0), (.aload_n 1, 15, 1, 0, .null, .int, 0), (.sipush 688, 18, 0, 0, .int (688), .int, 0), (.iload 4, 20, 4, 0, .null, .int, 0), (.iadd, 21, 0, 0, .null, .int, 0), (.iaload, 22, 0, 0, .null, .int, 0), (.iload_n 2, 23, 2, 0, .null, .int, 0), (.if_icmp .eq 6, 26, 29, 0, .null, .int, 0), (.goto 53, 29, 79, 0, .null, .int, 0)]
def k_144_29 : List Rw := [(.aload_n 0, 30, 0, 0, .null, .int, 0), (.getfield 17, 33, 8, 11, .null, (.array .int), 17), (.bipush 12, 35, 0, 0, .int (12), .int, 0), (.iload_n 2, 36, 2, 0, .null, .int, 0), (.iadd, 37, 0, 0, .null, .int, 0), (.iaload, 38, 0, 0, .null, .int, 0), (.aload_n 1, 39, 1, 0, .null, .int, 0), (.sipush 768, 42, 0, 0, .int (768), .int, 0), (.iload 4, 44, 4, 0, .null, .int, 0), (.iadd, 45, 0, 0, .null, .int, 0), (.iaload, 46, 0, 0, .null, .int, 0), (.aload_n 1, 47, 1, 0, .null, .int, 0), (.sipush 848, 50, 0, 0, .int (848), .int, 0), (.iload 4, 52, 4, 0, .null, .int, 0), (.iadd, 53, 0, 0, .null, .int, 0), (.iaload, 54, 0, 0, .null, .int, 0), (.isub, 55, 0, 0, .null, .int, 0), (.imul, 56, 0, 0, .null, .int, 0), (.istore 5, 58, 5, 0, .null, .int, 0), (.iload_n 3, 59, 3, 0, .null, .int, 0), (.aload_n 1, 60, 1, 0, .null, .int, 0), (.iload 4, 62, 4, 0, .null, .int, 0), (.invokestatic 305, 65, 243, 2, .null, .int, 242), (.ifCond .eq 10, 68, 75, 0, .null, .int, 0), (.iload 5, 70, 5, 0, .null, .int, 0), (.iconst 2, 71, 0, 0, .int (2), .int, 0), (.idiv, 72, 0, 0, .null, .int, 0), (.goto 5, 75, 77, 0, .null, .int, 0)]
def k_144_75 : List Rw := [(.iload 5, 77, 5, 0, .null, .int, 0)]
def k_144_77 : List Rw := [(.iadd, 78, 0, 0, .null, .int, 0), (.istore_n 3, 79, 3, 0, .null, .int, 0)]
def k_144_79 : List Rw := [(.iinc 4 1, 82, 4, 0, .int (1), .int, 0), (.goto (-77), 85, 5, 0, .null, .int, 0)]
def k_144_85 : List Rw := [(.iload_n 3, 86, 3, 0, .null, .int, 0), (.ireturn, 87, 0, 0, .null, .int, 0)]
def bl_144 : List (Nat × List Rw × Nat) := [(0, k_144_0, 5), (5, k_144_5, 99999), (29, k_144_29, 99999), (75, k_144_75, 77), (77, k_144_77, 79), (79, k_144_79, 99999), (85, k_144_85, 99999)]
set_option maxRecDepth 1000000 in
theorem ok_144 : bl_144.all (fun b => rowsB e_144 b.1 b.2.1 b.2.2) = true := by decide +kernel
-- FishGraderModel.writesWord (Ljava/lang/String;)V
abbrev e_145 : MIt := (⟨"FishGraderModel", "writesWord", "(Ljava/lang/String;)V"⟩, prog_11_method_129_code, 3, none, 2, 0, 8, 1)
def k_145_0 : List Rw := [(.iconst 0, 1, 0, 0, .int (0), .int, 0), (.istore_n 2, 2, 2, 0, .null, .int, 0)]
def k_145_2 : List Rw := [(.iload_n 2, 3, 2, 0, .null, .int, 0), (.aload_n 1, 4, 1, 0, .null, .int, 0), (.invokevirtual 95, 7, 244, 1, .ref 9, .int, 243), (.if_icmp .ge 18, 10, 25, 0, .null, .int, 0), (.aload_n 0, 11, 0, 0, .null, .int, 0), (.aload_n 1, 12, 1, 0, .null, .int, 0), (.iload_n 2, 13, 2, 0, .null, .int, 0), (.invokevirtual 101, 16, 245, 2, .ref 9, .int, 244), (.invokevirtual 366, 19, 139, 2, .ref 8, .int, 138), (.iinc 2 1, 22, 2, 0, .int (1), .int, 0), (.goto (-20), 25, 2, 0, .null, .int, 0)]
def k_145_25 : List Rw := [(.return_, 26, 0, 0, .null, .int, 0)]
def bl_145 : List (Nat × List Rw × Nat) := [(0, k_145_0, 2), (2, k_145_2, 99999), (25, k_145_25, 99999)]
set_option maxRecDepth 1000000 in
theorem ok_145 : bl_145.all (fun b => rowsB e_145 b.1 b.2.1 b.2.2) = true := by decide +kernel
-- FishGraderModel.earnedByAll ([I)J
abbrev e_146 : MIt := (⟨"FishGraderModel", "earnedByAll", "([I)J"⟩, prog_11_method_93_code, 5, (some .long), 2, 0, 8, 1)
def k_146_0 : List Rw := [(.lconst 0, 1, 0, 0, .long 0, .int, 0), (.lstore_n 2, 2, 2, 0, .null, .int, 0), (.iconst 0, 3, 0, 0, .int (0), .int, 0), (.istore 4, 5, 4, 0, .null, .int, 0)]
def k_146_5 : List Rw := [(.iload 4, 7, 4, 0, .null, .int, 0), (.aload_n 0, 8, 0, 0, .null, .int, 0), (.getfield 17, 11, 8, 11, .null, (.array .int), 17), (.bipush 7, 13, 0, 0, .int (7), .int, 0), (.iaload, 14, 0, 0, .null, .int, 0), (.if_icmp .ge 20, 17, 34, 0, .null, .int, 0), (.lload_n 2, 18, 2, 0, .null, .int, 0), (.aload_n 0, 19, 0, 0, .null, .int, 0), (.aload_n 1, 20, 1, 0, .null, .int, 0), (.iload 4, 22, 4, 0, .null, .int, 0), (.invokevirtual 325, 25, 144, 3, .ref 8, .int, 143), (.i2l, 26, 0, 0, .null, .int, 0), (.ladd, 27, 0, 0, .null, .int, 0), (.lstore_n 2, 28, 2, 0, .null, .int, 0), (.iinc 4 1, 31, 4, 0, .int (1), .int, 0), (.goto (-26), 34, 5, 0, .null, .int, 0)]
def k_146_34 : List Rw := [(.lload_n 2, 35, 2, 0, .null, .int, 0), (.lreturn, 36, 0, 0, .null, .int, 0)]
def bl_146 : List (Nat × List Rw × Nat) := [(0, k_146_0, 5), (5, k_146_5, 99999), (34, k_146_34, 99999)]
set_option maxRecDepth 1000000 in
theorem ok_146 : bl_146.all (fun b => rowsB e_146 b.1 b.2.1 b.2.2) = true := by decide +kernel
-- FishGrader.label (I)I
abbrev e_147 : MIt := (⟨"FishGrader", "label", "(I)I"⟩, prog_1_method_72_code, 3, (some .int), 5, 0, 7, 1)
def k_147_0 : List Rw := [(.aload_n 0, 1, 0, 0, .null, .int, 0), (.iload_n 1, 2, 1, 0, .null, .int, 0), (.invokevirtual 163, 5, 246, 2, .ref 7, .int, 245), (.aload_n 0, 6, 0, 0, .null, .int, 0), (.getfield 40, 9, 7, 7, .null, (.object "FishGrader$State"), 7), (.getfield 156, 12, 5, 13, .null, (.object "FishGrader$Boxes"), 38), (.astore_n 2, 13, 2, 0, .null, .int, 0), (.aload_n 0, 14, 0, 0, .null, .int, 0), (.getfield 63, 17, 7, 13, .null, (.object "java/lang/StringBuilder"), 13), (.iconst 0, 18, 0, 0, .int (0), .int, 0), (.invokevirtual 353, 21, 237, 2, .ref 10, .int, 236), (.aload_n 0, 22, 0, 0, .null, .int, 0), (.getfield 63, 25, 7, 13, .null, (.object "java/lang/StringBuilder"), 13), (.aload_n 0, 26, 0, 0, .null, .int, 0), (.getfield 30, 29, 7, 5, .null, (.object "FishGrader$Setup"), 5), (.aload_n 2, 30, 2, 0, .null, .int, 0), (.getfield 166, 33, 0, 2, .null, (.array .int), 77), (.iload_n 1, 34, 1, 0, .null, .int, 0), (.iaload, 35, 0, 0, .null, .int, 0), (.invokevirtual 356, 38, 247, 2, .ref 4, .int, 246), (.getfield 360, 41, 2, 0, .null, (.object "java/lang/String"), 78), (.invokevirtual 366, 44, 239, 2, .ref 10, .int, 238), (.pop, 45, 0, 0, .null, .int, 0), (.aload_n 0, 46, 0, 0, .null, .int, 0), (.getfield 63, 49, 7, 13, .null, (.object "java/lang/StringBuilder"), 13), (.bipush 32, 51, 0, 0, .int (32), .int, 0), (.invokevirtual 370, 54, 241, 2, .ref 10, .int, 240), (.aload_n 2, 55, 2, 0, .null, .int, 0), (.getfield 167, 58, 0, 3, .null, (.array .int), 79), (.iload_n 1, 59, 1, 0, .null, .int, 0), (.iaload, 60, 0, 0, .null, .int, 0), (.invokevirtual 373, 63, 240, 2, .ref 10, .int, 239), (.pop, 64, 0, 0, .null, .int, 0), (.aload_n 0, 65, 0, 0, .null, .int, 0), (.getfield 63, 68, 7, 13, .null, (.object "java/lang/StringBuilder"), 13), (.bipush 43, 70, 0, 0, .int (43), .int, 0), (.invokevirtual 370, 73, 241, 2, .ref 10, .int, 240), (.aload_n 2, 74, 2, 0, .null, .int, 0), (.iload_n 1, 75, 1, 0, .null, .int, 0), (.invokevirtual 168, 78, 248, 2, .ref 0, .int, 247), (.invokevirtual 373, 81, 240, 2, .ref 10, .int, 239), (.bipush 32, 83, 0, 0, .int (32), .int, 0), (.invokevirtual 370, 86, 241, 2, .ref 10, .int, 240), (.pop, 87, 0, 0, .null, .int, 0), (.aload_n 2, 88, 2, 0, .null, .int, 0), (.getfield 174, 91, 0, 6, .null, (.array .int), 80), (.iload_n 1, 92, 1, 0, .null, .int, 0), (.iaload, 93, 0, 0, .null, .int, 0), (.iconst (-1), 94, 0, 0, .int (-1), .int, 0), (.if_icmp .ne 17, 97, 111, 0, .null, .int, 0), (.aload_n 0, 98, 0, 0, .null, .int, 0), (.getfield 63, 101, 7, 13, .null, (.object "java/lang/StringBuilder"), 13), (.ldc_w 376, 104, 0, 1, .ref 2, .int, 4), (.invokevirtual 366, 107, 239, 2, .ref 10, .int, 238), (.pop, 108, 0, 0, .null, .int, 0), (.goto 23, 111, 131, 0, .null, .int, 0)]
def k_147_111 : List Rw := [(.aload_n 0, 112, 0, 0, .null, .int, 0), (.getfield 63, 115, 7, 13, .null, (.object "java/lang/StringBuilder"), 13), (.ldc_w 378, 118, 0, 1, .ref 4, .int, 5), (.invokevirtual 366, 121, 239, 2, .ref 10, .int, 238), (.aload_n 2, 122, 2, 0, .null, .int, 0), (.getfield 174, 125, 0, 6, .null, (.array .int), 80), (.iload_n 1, 126, 1, 0, .null, .int, 0), (.iaload, 127, 0, 0, .null, .int, 0), (.invokevirtual 373, 130, 240, 2, .ref 10, .int, 239), (.pop, 131, 0, 0, .null, .int, 0)]
def k_147_131 : List Rw := [(.aload_n 0, 132, 0, 0, .null, .int, 0), (.getfield 63, 135, 7, 13, .null, (.object "java/lang/StringBuilder"), 13), (.invokevirtual 379, 138, 234, 1, .ref 10, .int, 233), (.ireturn, 139, 0, 0, .null, .int, 0)]
def bl_147 : List (Nat × List Rw × Nat) := [(0, k_147_0, 99999), (111, k_147_111, 131), (131, k_147_131, 99999)]
set_option maxRecDepth 1000000 in
theorem ok_147 : bl_147.all (fun b => rowsB e_147 b.1 b.2.1 b.2.2) = true := by decide +kernel
-- FishGraderModel.isBox (I)Z
abbrev e_148 : MIt := (⟨"FishGraderModel", "isBox", "(I)Z"⟩, prog_11_method_53_code, 2, (some .boolean), 1, 0, 8, 1)
def k_148_0 : List Rw := [(.iload_n 1, 1, 1, 0, .null, .int, 0), (.iconst 0, 2, 0, 0, .int (0), .int, 0), (.aload_n 0, 3, 0, 0, .null, .int, 0), (.getfield 30, 6, 8, 15, .null, (.array .int), 21), (.bipush 8, 8, 0, 0, .int (8), .int, 0), (.iaload, 9, 0, 0, .null, .int, 0), (.iconst 1, 10, 0, 0, .int (1), .int, 0), (.isub, 11, 0, 0, .null, .int, 0), (.invokestatic 84, 14, 136, 3, .null, .int, 135), (.ireturn, 15, 0, 0, .null, .int, 0)]
def bl_148 : List (Nat × List Rw × Nat) := [(0, k_148_0, 99999)]
set_option maxRecDepth 1000000 in
theorem ok_148 : bl_148.all (fun b => rowsB e_148 b.1 b.2.1 b.2.2) = true := by decide +kernel
-- FishGrader.restore ()I
abbrev e_149 : MIt := (⟨"FishGrader", "restore", "()I"⟩, prog_1_method_69_code, 1, (some .int), 2, 0, 7, 0)
def k_149_0 : List Rw := [(.aload_n 0, 1, 0, 0, .null, .int, 0), (.getfield 47, 4, 7, 9, .null, .boolean, 9), (.ifCond .ne 14, 7, 18, 0, .null, .int, 0), (.new 324, 10, 0, 1, .int 1, .int, 1)]
def k_149_18 : List Rw := [(.aload_n 0, 19, 0, 0, .null, .int, 0), (.getfield 40, 22, 7, 7, .null, (.object "FishGrader$State"), 7), (.aload_n 0, 23, 0, 0, .null, .int, 0), (.getfield 50, 26, 7, 10, .null, (.object "FishGrader$State"), 10), (.invokevirtual 296, 29, 249, 2, .ref 5, .int, 248), (.aload_n 0, 30, 0, 0, .null, .int, 0), (.iconst 0, 31, 0, 0, .int (0), .int, 0), (.putfield 53, 34, 7, 11, .null, .int, 11), (.aload_n 0, 35, 0, 0, .null, .int, 0), (.getfield 40, 38, 7, 7, .null, (.object "FishGrader$State"), 7), (.getfield 188, 41, 5, 0, .null, .int, 37), (.ireturn, 42, 0, 0, .null, .int, 0)]
def bl_149 : List (Nat × List Rw × Nat) := [(0, k_149_0, 99999), (18, k_149_18, 99999)]
set_option maxRecDepth 1000000 in
theorem ok_149 : bl_149.all (fun b => rowsB e_149 b.1 b.2.1 b.2.2) = true := by decide +kernel
-- FishGraderModel.copy ([II[II)V
abbrev e_150 : MIt := (⟨"FishGraderModel", "copy", "([II[II)V"⟩, prog_11_method_31_code, 5, none, 0, 1, 8, 4)
def k_150_0 : List Rw := [(.iconst 0, 1, 0, 0, .int (0), .int, 0), (.istore 4, 3, 4, 0, .null, .int, 0)]
def k_150_3 : List Rw := [(.iload 4, 5, 4, 0, .null, .int, 0), (.sipush 1168, 8, 0, 0, .int (1168), .int, 0), (.if_icmp .ge 21, 11, 29, 0, .null, .int, 0), (.aload_n 2, 12, 2, 0, .null, .int, 0), (.iload_n 3, 13, 3, 0, .null, .int, 0), (.iload 4, 15, 4, 0, .null, .int, 0), (.iadd, 16, 0, 0, .null, .int, 0), (.aload_n 0, 17, 0, 0, .null, .int, 0), (.iload_n 1, 18, 1, 0, .null, .int, 0), (.iload 4, 20, 4, 0, .null, .int, 0), (.iadd, 21, 0, 0, .null, .int, 0), (.iaload, 22, 0, 0, .null, .int, 0), (.iastore, 23, 0, 0, .null, .int, 0), (.iinc 4 1, 26, 4, 0, .int (1), .int, 0), (.goto (-23), 29, 3, 0, .null, .int, 0)]
def k_150_29 : List Rw := [(.return_, 30, 0, 0, .null, .int, 0)]
def bl_150 : List (Nat × List Rw × Nat) := [(0, k_150_0, 3), (3, k_150_3, 99999), (29, k_150_29, 99999)]
set_option maxRecDepth 1000000 in
theorem ok_150 : bl_150.all (fun b => rowsB e_150 b.1 b.2.1 b.2.2) = true := by decide +kernel
-- FishGrader.save ()I
abbrev e_151 : MIt := (⟨"FishGrader", "save", "()I"⟩, prog_1_method_68_code, 1, (some .int), 2, 0, 7, 0)
def k_151_0 : List Rw := [(.aload_n 0, 1, 0, 0, .null, .int, 0), (.invokevirtual 177, 4, 236, 1, .ref 7, .int, 235), (.aload_n 0, 5, 0, 0, .null, .int, 0), (.getfield 50, 8, 7, 10, .null, (.object "FishGrader$State"), 10), (.aload_n 0, 9, 0, 0, .null, .int, 0), (.getfield 40, 12, 7, 7, .null, (.object "FishGrader$State"), 7), (.invokevirtual 296, 15, 249, 2, .ref 5, .int, 248), (.aload_n 0, 16, 0, 0, .null, .int, 0), (.iconst 1, 17, 0, 0, .int (1), .int, 0), (.putfield 47, 20, 7, 9, .null, .boolean, 9), (.aload_n 0, 21, 0, 0, .null, .int, 0), (.getfield 40, 24, 7, 7, .null, (.object "FishGrader$State"), 7), (.getfield 188, 27, 5, 0, .null, .int, 37), (.ireturn, 28, 0, 0, .null, .int, 0)]
def bl_151 : List (Nat × List Rw × Nat) := [(0, k_151_0, 99999)]
set_option maxRecDepth 1000000 in
theorem ok_151 : bl_151.all (fun b => rowsB e_151 b.1 b.2.1 b.2.2) = true := by decide +kernel
-- FishGrader.undo ()I
abbrev e_152 : MIt := (⟨"FishGrader", "undo", "()I"⟩, prog_1_method_66_code, 2, (some .int), 0, 0, 7, 0)
def k_152_0 : List Rw := [(.aload_n 0, 1, 0, 0, .null, .int, 0), (.getfield 53, 4, 7, 11, .null, .int, 11), (.iconst 1, 5, 0, 0, .int (1), .int, 0), (.if_icmp .ge 7, 8, 12, 0, .null, .int, 0), (.aconst_null, 9, 0, 0, .null, .int, 0), (.goto 14, 12, 23, 0, .null, .int, 0)]
def k_152_12 : List Rw := [(.aload_n 0, 13, 0, 0, .null, .int, 0), (.getfield 56, 16, 7, 12, .null, (.array (.object "FishGrader$State")), 12), (.aload_n 0, 17, 0, 0, .null, .int, 0), (.getfield 53, 20, 7, 11, .null, .int, 11), (.iconst 1, 21, 0, 0, .int (1), .int, 0), (.isub, 22, 0, 0, .null, .int, 0), (.aaload, 23, 0, 0, .null, .int, 0)]
def k_152_23 : List Rw := [(.astore_n 1, 24, 1, 0, .null, .int, 0), (.aload_n 1, 25, 1, 0, .null, .int, 0), (.ifnonnull 14, 28, 39, 0, .null, .int, 0), (.new 324, 31, 0, 1, .int 1, .int, 2)]
def k_152_39 : List Rw := [(.aload_n 0, 40, 0, 0, .null, .int, 0), (.dup, 41, 0, 0, .null, .int, 0), (.getfield 53, 44, 7, 11, .null, .int, 11), (.iconst 1, 45, 0, 0, .int (1), .int, 0), (.isub, 46, 0, 0, .null, .int, 0), (.putfield 53, 49, 7, 11, .null, .int, 11), (.aload_n 0, 50, 0, 0, .null, .int, 0), (.getfield 56, 53, 7, 12, .null, (.array (.object "FishGrader$State")), 12), (.aload_n 0, 54, 0, 0, .null, .int, 0), (.getfield 53, 57, 7, 11, .null, .int, 11), (.aload_n 0, 58, 0, 0, .null, .int, 0), (.getfield 40, 61, 7, 7, .null, (.object "FishGrader$State"), 7), (.aastore, 62, 5, 0, .null, .int, 0), (.aload_n 0, 63, 0, 0, .null, .int, 0), (.aload_n 1, 64, 1, 0, .null, .int, 0), (.putfield 40, 67, 7, 7, .null, (.object "FishGrader$State"), 7), (.aload_n 0, 68, 0, 0, .null, .int, 0), (.getfield 53, 71, 7, 11, .null, .int, 11), (.ireturn, 72, 0, 0, .null, .int, 0)]
def bl_152 : List (Nat × List Rw × Nat) := [(0, k_152_0, 99999), (12, k_152_12, 23), (23, k_152_23, 99999), (39, k_152_39, 99999)]
set_option maxRecDepth 1000000 in
theorem ok_152 : bl_152.all (fun b => rowsB e_152 b.1 b.2.1 b.2.2) = true := by decide +kernel
-- FishGrader.moveQuota (III)I
abbrev e_153 : MIt := (⟨"FishGrader", "moveQuota", "(III)I"⟩, prog_1_method_65_code, 4, (some .int), 3, 0, 7, 3)
def k_153_0 : List Rw := [(.aload_n 0, 1, 0, 0, .null, .int, 0), (.iload_n 1, 2, 1, 0, .null, .int, 0), (.invokevirtual 126, 5, 250, 2, .ref 7, .int, 249), (.aload_n 0, 6, 0, 0, .null, .int, 0), (.iload_n 2, 7, 2, 0, .null, .int, 0), (.invokevirtual 126, 10, 250, 2, .ref 7, .int, 249), (.iload_n 3, 11, 3, 0, .null, .int, 0), (.iconst 1, 12, 0, 0, .int (1), .int, 0), (.ldc_w 268, 15, 0, 0, .int (999999), .int, 1), (.invokestatic 210, 18, 251, 3, .null, .int, 250), (.aload_n 0, 19, 0, 0, .null, .int, 0), (.getfield 40, 22, 7, 7, .null, (.object "FishGrader$State"), 7), (.iload_n 1, 23, 1, 0, .null, .int, 0), (.iload_n 2, 24, 2, 0, .null, .int, 0), (.iload_n 3, 25, 3, 0, .null, .int, 0), (.invokevirtual 272, 28, 252, 4, .ref 5, .int, 251), (.ifCond .ne 14, 31, 42, 0, .null, .int, 0), (.new 100, 34, 2, 1, .int 1, .int, 3)]
def k_153_42 : List Rw := [(.aload_n 0, 43, 0, 0, .null, .int, 0), (.invokevirtual 303, 46, 253, 1, .ref 7, .int, 252), (.aload_n 0, 47, 0, 0, .null, .int, 0), (.getfield 40, 50, 7, 7, .null, (.object "FishGrader$State"), 7), (.iload_n 1, 51, 1, 0, .null, .int, 0), (.iload_n 2, 52, 2, 0, .null, .int, 0), (.iload_n 3, 53, 3, 0, .null, .int, 0), (.invokevirtual 276, 56, 254, 4, .ref 5, .int, 253), (.aload_n 0, 57, 0, 0, .null, .int, 0), (.getfield 40, 60, 7, 7, .null, (.object "FishGrader$State"), 7), (.getfield 231, 63, 5, 8, .null, (.array .int), 81), (.iload_n 1, 64, 1, 0, .null, .int, 0), (.iaload, 65, 0, 0, .null, .int, 0), (.ireturn, 66, 0, 0, .null, .int, 0)]
def bl_153 : List (Nat × List Rw × Nat) := [(0, k_153_0, 99999), (42, k_153_42, 99999)]
set_option maxRecDepth 1000000 in
theorem ok_153 : bl_153.all (fun b => rowsB e_153 b.1 b.2.1 b.2.2) = true := by decide +kernel
-- FishGraderModel.isKind (I)Z
abbrev e_154 : MIt := (⟨"FishGraderModel", "isKind", "(I)Z"⟩, prog_11_method_51_code, 2, (some .boolean), 1, 0, 8, 1)
def k_154_0 : List Rw := [(.iload_n 1, 1, 1, 0, .null, .int, 0), (.iconst 0, 2, 0, 0, .int (0), .int, 0), (.aload_n 0, 3, 0, 0, .null, .int, 0), (.getfield 17, 6, 8, 11, .null, (.array .int), 17), (.bipush 7, 8, 0, 0, .int (7), .int, 0), (.iaload, 9, 0, 0, .null, .int, 0), (.iconst 1, 10, 0, 0, .int (1), .int, 0), (.isub, 11, 0, 0, .null, .int, 0), (.invokestatic 84, 14, 136, 3, .null, .int, 135), (.ireturn, 15, 0, 0, .null, .int, 0)]
def bl_154 : List (Nat × List Rw × Nat) := [(0, k_154_0, 99999)]
set_option maxRecDepth 1000000 in
theorem ok_154 : bl_154.all (fun b => rowsB e_154 b.1 b.2.1 b.2.2) = true := by decide +kernel
-- FishGraderModel.mayMove (III)Z
abbrev e_155 : MIt := (⟨"FishGraderModel", "mayMove", "(III)Z"⟩, prog_11_method_104_code, 4, (some .boolean), 0, 0, 8, 3)
def k_155_0 : List Rw := [(.iload_n 1, 1, 1, 0, .null, .int, 0), (.iload_n 2, 2, 2, 0, .null, .int, 0), (.if_icmp .eq 43, 5, 45, 0, .null, .int, 0), (.aload_n 0, 6, 0, 0, .null, .int, 0), (.getfield 30, 9, 8, 15, .null, (.array .int), 21), (.bipush 14, 11, 0, 0, .int (14), .int, 0), (.iload_n 1, 12, 1, 0, .null, .int, 0), (.iadd, 13, 0, 0, .null, .int, 0), (.iaload, 14, 0, 0, .null, .int, 0), (.iload_n 3, 15, 3, 0, .null, .int, 0), (.if_icmp .lt 30, 18, 45, 0, .null, .int, 0), (.aload_n 0, 19, 0, 0, .null, .int, 0), (.getfield 30, 22, 8, 15, .null, (.array .int), 21), (.bipush 14, 24, 0, 0, .int (14), .int, 0), (.iload_n 1, 25, 1, 0, .null, .int, 0), (.iadd, 26, 0, 0, .null, .int, 0), (.iaload, 27, 0, 0, .null, .int, 0), (.iload_n 3, 28, 3, 0, .null, .int, 0), (.isub, 29, 0, 0, .null, .int, 0), (.aload_n 0, 30, 0, 0, .null, .int, 0), (.getfield 30, 33, 8, 15, .null, (.array .int), 21), (.bipush 18, 35, 0, 0, .int (18), .int, 0), (.iload_n 1, 36, 1, 0, .null, .int, 0), (.iadd, 37, 0, 0, .null, .int, 0), (.iaload, 38, 0, 0, .null, .int, 0), (.if_icmp .lt 7, 41, 45, 0, .null, .int, 0), (.iconst 1, 42, 0, 0, .int (1), .int, 0), (.goto 4, 45, 46, 0, .null, .int, 0)]
def k_155_45 : List Rw := [(.iconst 0, 46, 0, 0, .int (0), .int, 0)]
def k_155_46 : List Rw := [(.ireturn, 47, 0, 0, .null, .int, 0)]
def bl_155 : List (Nat × List Rw × Nat) := [(0, k_155_0, 99999), (45, k_155_45, 46), (46, k_155_46, 99999)]
set_option maxRecDepth 1000000 in
theorem ok_155 : bl_155.all (fun b => rowsB e_155 b.1 b.2.1 b.2.2) = true := by decide +kernel
-- FishGraderModel.throwsAt (I)I
abbrev e_156 : MIt := (⟨"FishGraderModel", "throwsAt", "(I)I"⟩, prog_11_method_4_code, 2, (some .int), 0, 0, 8, 1)
def k_156_0 : List Rw := [(.aload_n 0, 1, 0, 0, .null, .int, 0), (.iload_n 1, 2, 1, 0, .null, .int, 0), (.putfield 51, 5, 8, 0, .null, .int, 29), (.iconst 0, 6, 0, 0, .int (0), .int, 0), (.ireturn, 7, 0, 0, .null, .int, 0)]
def bl_156 : List (Nat × List Rw × Nat) := [(0, k_156_0, 99999)]
set_option maxRecDepth 1000000 in
theorem ok_156 : bl_156.all (fun b => rowsB e_156 b.1 b.2.1 b.2.2) = true := by decide +kernel
-- FishGraderModel.remember ()V
abbrev e_157 : MIt := (⟨"FishGraderModel", "remember", "()V"⟩, prog_11_method_32_code, 2, none, 1, 0, 8, 0)
def k_157_0 : List Rw := [(.aload_n 0, 1, 0, 0, .null, .int, 0), (.getfield 234, 4, 8, 20, .null, .int, 31), (.bipush 8, 6, 0, 0, .int (8), .int, 0), (.if_icmp .ne 48, 9, 54, 0, .null, .int, 0), (.sipush 1168, 12, 0, 0, .int (1168), .int, 0), (.istore_n 1, 13, 1, 0, .null, .int, 0)]
def k_157_13 : List Rw := [(.iload_n 1, 14, 1, 0, .null, .int, 0), (.aload_n 0, 15, 0, 0, .null, .int, 0), (.getfield 39, 18, 8, 18, .null, (.array .int), 24), (.arraylength, 19, 0, 0, .null, .int, 0), (.if_icmp .ge 25, 22, 44, 0, .null, .int, 0), (.aload_n 0, 23, 0, 0, .null, .int, 0), (.getfield 39, 26, 8, 18, .null, (.array .int), 24), (.iload_n 1, 27, 1, 0, .null, .int, 0), (.sipush 1168, 30, 0, 0, .int (1168), .int, 0), (.isub, 31, 0, 0, .null, .int, 0), (.aload_n 0, 32, 0, 0, .null, .int, 0), (.getfield 39, 35, 8, 18, .null, (.array .int), 24), (.iload_n 1, 36, 1, 0, .null, .int, 0), (.iaload, 37, 0, 0, .null, .int, 0), (.iastore, 38, 0, 0, .null, .int, 0), (.iinc 1 1, 41, 1, 0, .int (1), .int, 0), (.goto (-28), 44, 13, 0, .null, .int, 0)]
def k_157_44 : List Rw := [(.aload_n 0, 45, 0, 0, .null, .int, 0), (.dup, 46, 0, 0, .null, .int, 0), (.getfield 234, 49, 8, 20, .null, .int, 31), (.iconst 1, 50, 0, 0, .int (1), .int, 0), (.isub, 51, 0, 0, .null, .int, 0), (.putfield 234, 54, 8, 20, .null, .int, 31)]
def k_157_54 : List Rw := [(.aload_n 0, 55, 0, 0, .null, .int, 0), (.getfield 30, 58, 8, 15, .null, (.array .int), 21), (.iconst 0, 59, 0, 0, .int (0), .int, 0), (.aload_n 0, 60, 0, 0, .null, .int, 0), (.getfield 39, 63, 8, 18, .null, (.array .int), 24), (.sipush 1168, 66, 0, 0, .int (1168), .int, 0), (.aload_n 0, 67, 0, 0, .null, .int, 0), (.getfield 234, 70, 8, 20, .null, .int, 31), (.imul, 71, 0, 0, .null, .int, 0), (.invokestatic 224, 74, 150, 4, .null, .int, 149), (.aload_n 0, 75, 0, 0, .null, .int, 0), (.dup, 76, 0, 0, .null, .int, 0), (.getfield 234, 79, 8, 20, .null, .int, 31), (.iconst 1, 80, 0, 0, .int (1), .int, 0), (.iadd, 81, 0, 0, .null, .int, 0), (.putfield 234, 84, 8, 20, .null, .int, 31), (.return_, 85, 0, 0, .null, .int, 0)]
def bl_157 : List (Nat × List Rw × Nat) := [(0, k_157_0, 13), (13, k_157_13, 99999), (44, k_157_44, 54), (54, k_157_54, 99999)]
set_option maxRecDepth 1000000 in
theorem ok_157 : bl_157.all (fun b => rowsB e_157 b.1 b.2.1 b.2.2) = true := by decide +kernel
-- FishGrader.setTarget (II)I
abbrev e_158 : MIt := (⟨"FishGrader", "setTarget", "(II)I"⟩, prog_1_method_64_code, 4, (some .int), 3, 0, 7, 2)
def k_158_0 : List Rw := [(.aload_n 0, 1, 0, 0, .null, .int, 0), (.iload_n 1, 2, 1, 0, .null, .int, 0), (.invokevirtual 126, 5, 250, 2, .ref 7, .int, 249), (.iload_n 2, 6, 2, 0, .null, .int, 0), (.iconst 1, 7, 0, 0, .int (1), .int, 0), (.sipush 30000, 10, 0, 0, .int (30000), .int, 0), (.invokestatic 210, 13, 251, 3, .null, .int, 250), (.aload_n 0, 14, 0, 0, .null, .int, 0), (.invokevirtual 303, 17, 253, 1, .ref 7, .int, 252), (.aload_n 0, 18, 0, 0, .null, .int, 0), (.getfield 40, 21, 7, 7, .null, (.object "FishGrader$State"), 7), (.getfield 234, 24, 5, 7, .null, (.array .int), 82), (.iload_n 1, 25, 1, 0, .null, .int, 0), (.iaload, 26, 0, 0, .null, .int, 0), (.istore_n 3, 27, 3, 0, .null, .int, 0), (.aload_n 0, 28, 0, 0, .null, .int, 0), (.getfield 40, 31, 7, 7, .null, (.object "FishGrader$State"), 7), (.getfield 234, 34, 5, 7, .null, (.array .int), 82), (.iload_n 1, 35, 1, 0, .null, .int, 0), (.iload_n 2, 36, 2, 0, .null, .int, 0), (.iastore, 37, 0, 0, .null, .int, 0), (.iload_n 3, 38, 3, 0, .null, .int, 0), (.ireturn, 39, 0, 0, .null, .int, 0)]
def bl_158 : List (Nat × List Rw × Nat) := [(0, k_158_0, 99999)]
set_option maxRecDepth 1000000 in
theorem ok_158 : bl_158.all (fun b => rowsB e_158 b.1 b.2.1 b.2.2) = true := by decide +kernel
-- FishGraderModel.sets (II)I
abbrev e_159 : MIt := (⟨"FishGraderModel", "sets", "(II)I"⟩, prog_11_method_117_code, 4, (some .int), 2, 0, 8, 2)
def k_159_0 : List Rw := [(.aload_n 0, 1, 0, 0, .null, .int, 0), (.invokevirtual 354, 4, 157, 1, .ref 8, .int, 156), (.aload_n 0, 5, 0, 0, .null, .int, 0), (.getfield 30, 8, 8, 15, .null, (.array .int), 21), (.iload_n 1, 9, 1, 0, .null, .int, 0), (.iaload, 10, 0, 0, .null, .int, 0), (.istore_n 3, 11, 3, 0, .null, .int, 0), (.aload_n 0, 12, 0, 0, .null, .int, 0), (.getfield 30, 15, 8, 15, .null, (.array .int), 21), (.iload_n 1, 16, 1, 0, .null, .int, 0), (.iload_n 2, 17, 2, 0, .null, .int, 0), (.iastore, 18, 0, 0, .null, .int, 0), (.iload_n 3, 19, 3, 0, .null, .int, 0), (.ireturn, 20, 0, 0, .null, .int, 0)]
def bl_159 : List (Nat × List Rw × Nat) := [(0, k_159_0, 99999)]
set_option maxRecDepth 1000000 in
theorem ok_159 : bl_159.all (fun b => rowsB e_159 b.1 b.2.1 b.2.2) = true := by decide +kernel
-- FishGrader.setLimit (I)I
abbrev e_160 : MIt := (⟨"FishGrader", "setLimit", "(I)I"⟩, prog_1_method_63_code, 3, (some .int), 3, 0, 7, 1)
def k_160_0 : List Rw := [(.aload_n 0, 1, 0, 0, .null, .int, 0), (.invokevirtual 177, 4, 236, 1, .ref 7, .int, 235), (.iload_n 1, 5, 1, 0, .null, .int, 0), (.iconst 0, 6, 0, 0, .int (0), .int, 0), (.sipush 9999, 9, 0, 0, .int (9999), .int, 0), (.invokestatic 210, 12, 251, 3, .null, .int, 250), (.aload_n 0, 13, 0, 0, .null, .int, 0), (.invokevirtual 303, 16, 253, 1, .ref 7, .int, 252), (.aload_n 0, 17, 0, 0, .null, .int, 0), (.getfield 40, 20, 7, 7, .null, (.object "FishGrader$State"), 7), (.getfield 279, 23, 5, 2, .null, .int, 83), (.istore_n 2, 24, 2, 0, .null, .int, 0), (.aload_n 0, 25, 0, 0, .null, .int, 0), (.getfield 40, 28, 7, 7, .null, (.object "FishGrader$State"), 7), (.iload_n 1, 29, 1, 0, .null, .int, 0), (.putfield 279, 32, 5, 2, .null, .int, 83), (.iload_n 2, 33, 2, 0, .null, .int, 0), (.ireturn, 34, 0, 0, .null, .int, 0)]
def bl_160 : List (Nat × List Rw × Nat) := [(0, k_160_0, 99999)]
set_option maxRecDepth 1000000 in
theorem ok_160 : bl_160.all (fun b => rowsB e_160 b.1 b.2.1 b.2.2) = true := by decide +kernel
-- FishGrader.setRule (I)I
abbrev e_161 : MIt := (⟨"FishGrader", "setRule", "(I)I"⟩, prog_1_method_62_code, 3, (some .int), 3, 0, 7, 1)
def k_161_0 : List Rw := [(.aload_n 0, 1, 0, 0, .null, .int, 0), (.invokevirtual 177, 4, 236, 1, .ref 7, .int, 235), (.iload_n 1, 5, 1, 0, .null, .int, 0), (.iconst 0, 6, 0, 0, .int (0), .int, 0), (.iconst 2, 7, 0, 0, .int (2), .int, 0), (.invokestatic 210, 10, 251, 3, .null, .int, 250), (.aload_n 0, 11, 0, 0, .null, .int, 0), (.invokevirtual 303, 14, 253, 1, .ref 7, .int, 252), (.aload_n 0, 15, 0, 0, .null, .int, 0), (.getfield 40, 18, 7, 7, .null, (.object "FishGrader$State"), 7), (.getfield 191, 21, 5, 1, .null, .int, 36), (.istore_n 2, 22, 2, 0, .null, .int, 0), (.aload_n 0, 23, 0, 0, .null, .int, 0), (.getfield 40, 26, 7, 7, .null, (.object "FishGrader$State"), 7), (.iload_n 1, 27, 1, 0, .null, .int, 0), (.putfield 191, 30, 5, 1, .null, .int, 36), (.iload_n 2, 31, 2, 0, .null, .int, 0), (.ireturn, 32, 0, 0, .null, .int, 0)]
def bl_161 : List (Nat × List Rw × Nat) := [(0, k_161_0, 99999)]
set_option maxRecDepth 1000000 in
theorem ok_161 : bl_161.all (fun b => rowsB e_161 b.1 b.2.1 b.2.2) = true := by decide +kernel
-- FishGrader.addItem (IIII)I
abbrev e_162 : MIt := (⟨"FishGrader", "addItem", "(IIII)I"⟩, prog_1_method_61_code, 6, (some .int), 4, 0, 7, 4)
def k_162_0 : List Rw := [(.aload_n 0, 1, 0, 0, .null, .int, 0), (.iload_n 3, 2, 3, 0, .null, .int, 0), (.invokevirtual 126, 5, 250, 2, .ref 7, .int, 249), (.iload_n 1, 6, 1, 0, .null, .int, 0), (.iconst 0, 7, 0, 0, .int (0), .int, 0), (.sipush 20000, 10, 0, 0, .int (20000), .int, 0), (.invokestatic 210, 13, 251, 3, .null, .int, 250), (.iload_n 2, 14, 2, 0, .null, .int, 0), (.iconst 1, 15, 0, 0, .int (1), .int, 0), (.sipush 9999, 18, 0, 0, .int (9999), .int, 0), (.invokestatic 210, 21, 251, 3, .null, .int, 250), (.iload 4, 23, 4, 0, .null, .int, 0), (.iconst 1, 24, 0, 0, .int (1), .int, 0), (.bipush 99, 26, 0, 0, .int (99), .int, 0), (.invokestatic 210, 29, 251, 3, .null, .int, 250), (.aload_n 0, 30, 0, 0, .null, .int, 0), (.getfield 40, 33, 7, 7, .null, (.object "FishGrader$State"), 7), (.getfield 108, 36, 5, 12, .null, (.object "FishGrader$Items"), 32), (.getfield 112, 39, 1, 0, .null, .int, 42), (.bipush 80, 41, 0, 0, .int (80), .int, 0), (.if_icmp .lt 14, 44, 55, 0, .null, .int, 0), (.new 324, 47, 0, 1, .int 1, .int, 4)]
def k_162_55 : List Rw := [(.aload_n 0, 56, 0, 0, .null, .int, 0), (.invokevirtual 303, 59, 253, 1, .ref 7, .int, 252), (.aload_n 0, 60, 0, 0, .null, .int, 0), (.getfield 40, 63, 7, 7, .null, (.object "FishGrader$State"), 7), (.getfield 108, 66, 5, 12, .null, (.object "FishGrader$Items"), 32), (.aload_n 0, 67, 0, 0, .null, .int, 0), (.getfield 30, 70, 7, 5, .null, (.object "FishGrader$Setup"), 5), (.iload_n 1, 71, 1, 0, .null, .int, 0), (.iload_n 2, 72, 2, 0, .null, .int, 0), (.invokevirtual 329, 75, 255, 3, .ref 4, .int, 254), (.invokevirtual 332, 78, 256, 2, .ref 1, .int, 255), (.istore 5, 80, 5, 0, .null, .int, 0), (.aload_n 0, 81, 0, 0, .null, .int, 0), (.getfield 40, 84, 7, 7, .null, (.object "FishGrader$State"), 7), (.getfield 108, 87, 5, 12, .null, (.object "FishGrader$Items"), 32), (.iload 5, 89, 5, 0, .null, .int, 0), (.iload_n 3, 90, 3, 0, .null, .int, 0), (.iload 4, 92, 4, 0, .null, .int, 0), (.invokevirtual 335, 95, 257, 4, .ref 1, .int, 256), (.aload_n 0, 96, 0, 0, .null, .int, 0), (.getfield 40, 99, 7, 7, .null, (.object "FishGrader$State"), 7), (.getfield 108, 102, 5, 12, .null, (.object "FishGrader$Items"), 32), (.iload 5, 104, 5, 0, .null, .int, 0), (.aload_n 0, 105, 0, 0, .null, .int, 0), (.getfield 30, 108, 7, 5, .null, (.object "FishGrader$Setup"), 5), (.getfield 338, 111, 4, 1, .null, .int, 84), (.invokevirtual 341, 114, 258, 3, .ref 1, .int, 257), (.iload 5, 116, 5, 0, .null, .int, 0), (.ireturn, 117, 0, 0, .null, .int, 0)]
def bl_162 : List (Nat × List Rw × Nat) := [(0, k_162_0, 99999), (55, k_162_55, 99999)]
set_option maxRecDepth 1000000 in
theorem ok_162 : bl_162.all (fun b => rowsB e_162 b.1 b.2.1 b.2.2) = true := by decide +kernel
-- FishGraderModel.weigh (JJI)I
abbrev e_163 : MIt := (⟨"FishGraderModel", "weigh", "(JJI)I"⟩, prog_11_method_23_code, 5, (some .int), 0, 1, 8, 3)
def k_163_0 : List Rw := [(.ldc2_w 160, 3, 0, 0, .long (60000), .int, 1), (.ldc2_w 162, 6, 0, 0, .long (2), .int, 2), (.lload_n 0, 7, 0, 0, .null, .int, 0), (.lmul, 8, 0, 0, .null, .int, 0), (.iload 4, 10, 4, 0, .null, .int, 0), (.i2l, 11, 0, 0, .null, .int, 0), (.lmul, 12, 0, 0, .null, .int, 0), (.lload_n 2, 13, 2, 0, .null, .int, 0), (.ladd, 14, 0, 0, .null, .int, 0), (.ldc2_w 162, 17, 0, 0, .long (2), .int, 2), (.lload_n 2, 18, 2, 0, .null, .int, 0), (.lmul, 19, 0, 0, .null, .int, 0), (.ldiv, 20, 0, 0, .null, .int, 0), (.invokestatic 164, 23, 0, 3, .int 1, .int, 1), (.l2i, 24, 0, 0, .null, .int, 0), (.ireturn, 25, 0, 0, .null, .int, 0)]
def bl_163 : List (Nat × List Rw × Nat) := [(0, k_163_0, 99999)]
set_option maxRecDepth 1000000 in
theorem ok_163 : bl_163.all (fun b => rowsB e_163 b.1 b.2.1 b.2.2) = true := by decide +kernel
-- FishGraderModel.kindBy ([II[I)I
abbrev e_164 : MIt := (⟨"FishGraderModel", "kindBy", "([II[I)I"⟩, prog_11_method_28_code, 3, (some .int), 2, 1, 8, 3)
def k_164_0 : List Rw := [(.aload_n 0, 1, 0, 0, .null, .int, 0), (.iload_n 1, 2, 1, 0, .null, .int, 0), (.aload_n 2, 3, 2, 0, .null, .int, 0), (.bipush 7, 5, 0, 0, .int (7), .int, 0), (.iaload, 6, 0, 0, .null, .int, 0), (.invokestatic 205, 9, 219, 3, .null, .int, 218), (.aload_n 2, 10, 2, 0, .null, .int, 0), (.iconst 1, 11, 0, 0, .int (1), .int, 0), (.iaload, 12, 0, 0, .null, .int, 0), (.if_icmp .ge 7, 15, 19, 0, .null, .int, 0), (.iconst (-1), 16, 0, 0, .int (-1), .int, 0), (.goto 12, 19, 28, 0, .null, .int, 0)]
def k_164_19 : List Rw := [(.aload_n 0, 20, 0, 0, .null, .int, 0), (.iload_n 1, 21, 1, 0, .null, .int, 0), (.aload_n 2, 22, 2, 0, .null, .int, 0), (.bipush 7, 24, 0, 0, .int (7), .int, 0), (.iaload, 25, 0, 0, .null, .int, 0), (.invokestatic 198, 28, 259, 3, .null, .int, 258)]
def k_164_28 : List Rw := [(.ireturn, 29, 0, 0, .null, .int, 0)]
def bl_164 : List (Nat × List Rw × Nat) := [(0, k_164_0, 99999), (19, k_164_19, 28), (28, k_164_28, 99999)]
set_option maxRecDepth 1000000 in
theorem ok_164 : bl_164.all (fun b => rowsB e_164 b.1 b.2.1 b.2.2) = true := by decide +kernel
-- FishGrader.release (II)I
abbrev e_165 : MIt := (⟨"FishGrader", "release", "(II)I"⟩, prog_1_method_60_code, 6, (some .int), 3, 0, 7, 2)
def k_165_0 : List Rw := [(.aload_n 0, 1, 0, 0, .null, .int, 0), (.iload_n 1, 2, 1, 0, .null, .int, 0), (.invokevirtual 197, 5, 260, 2, .ref 7, .int, 259), (.aload_n 0, 6, 0, 0, .null, .int, 0), (.getfield 40, 9, 7, 7, .null, (.object "FishGrader$State"), 7), (.getfield 200, 12, 5, 6, .null, (.array .int), 85), (.iload_n 1, 13, 1, 0, .null, .int, 0), (.iaload, 14, 0, 0, .null, .int, 0), (.istore_n 3, 15, 3, 0, .null, .int, 0), (.aload_n 0, 16, 0, 0, .null, .int, 0), (.getfield 40, 19, 7, 7, .null, (.object "FishGrader$State"), 7), (.getfield 108, 22, 5, 12, .null, (.object "FishGrader$Items"), 32), (.getfield 133, 25, 1, 3, .null, (.array .int), 86), (.iload_n 3, 26, 3, 0, .null, .int, 0), (.iaload, 27, 0, 0, .null, .int, 0), (.istore 4, 29, 4, 0, .null, .int, 0), (.aload_n 0, 30, 0, 0, .null, .int, 0), (.iload 4, 32, 4, 0, .null, .int, 0), (.iload_n 2, 33, 2, 0, .null, .int, 0), (.invokevirtual 146, 36, 261, 3, .ref 7, .int, 260), (.aload_n 0, 37, 0, 0, .null, .int, 0), (.invokevirtual 303, 40, 253, 1, .ref 7, .int, 252), (.aload_n 0, 41, 0, 0, .null, .int, 0), (.getfield 40, 44, 7, 7, .null, (.object "FishGrader$State"), 7), (.iload_n 1, 45, 1, 0, .null, .int, 0), (.invokevirtual 314, 48, 262, 2, .ref 5, .int, 261), (.aload_n 0, 49, 0, 0, .null, .int, 0), (.getfield 40, 52, 7, 7, .null, (.object "FishGrader$State"), 7), (.iload_n 3, 53, 3, 0, .null, .int, 0), (.iload_n 2, 54, 2, 0, .null, .int, 0), (.invokevirtual 317, 57, 263, 3, .ref 5, .int, 262), (.aload_n 0, 58, 0, 0, .null, .int, 0), (.getfield 40, 61, 7, 7, .null, (.object "FishGrader$State"), 7), (.iload 4, 63, 4, 0, .null, .int, 0), (.iload_n 2, 64, 2, 0, .null, .int, 0), (.invokevirtual 320, 67, 264, 3, .ref 5, .int, 263), (.istore 5, 69, 5, 0, .null, .int, 0), (.iload 5, 71, 5, 0, .null, .int, 0), (.ifCond .eq 28, 74, 99, 0, .null, .int, 0), (.aload_n 0, 75, 0, 0, .null, .int, 0), (.getfield 40, 78, 7, 7, .null, (.object "FishGrader$State"), 7), (.getfield 156, 81, 5, 13, .null, (.object "FishGrader$Boxes"), 38), (.aload_n 0, 82, 0, 0, .null, .int, 0), (.getfield 40, 85, 7, 7, .null, (.object "FishGrader$State"), 7), (.getfield 156, 88, 5, 13, .null, (.object "FishGrader$Boxes"), 38), (.getfield 160, 91, 0, 0, .null, .int, 39), (.iconst 1, 92, 0, 0, .int (1), .int, 0), (.isub, 93, 0, 0, .null, .int, 0), (.invokevirtual 168, 96, 248, 2, .ref 0, .int, 247), (.goto 4, 99, 100, 0, .null, .int, 0)]
def k_165_99 : List Rw := [(.iconst (-1), 100, 0, 0, .int (-1), .int, 0)]
def k_165_100 : List Rw := [(.ireturn, 101, 0, 0, .null, .int, 0)]
def bl_165 : List (Nat × List Rw × Nat) := [(0, k_165_0, 99999), (99, k_165_99, 100), (100, k_165_100, 99999)]
set_option maxRecDepth 1000000 in
theorem ok_165 : bl_165.all (fun b => rowsB e_165 b.1 b.2.1 b.2.2) = true := by decide +kernel
-- FishGraderModel.isPlace (II)Z
abbrev e_166 : MIt := (⟨"FishGraderModel", "isPlace", "(II)Z"⟩, prog_11_method_52_code, 3, (some .boolean), 2, 0, 8, 2)
def k_166_0 : List Rw := [(.aload_n 0, 1, 0, 0, .null, .int, 0), (.iload_n 1, 2, 1, 0, .null, .int, 0), (.invokevirtual 282, 5, 154, 2, .ref 8, .int, 153), (.ifCond .eq 26, 8, 31, 0, .null, .int, 0), (.iload_n 2, 9, 2, 0, .null, .int, 0), (.iconst 0, 10, 0, 0, .int (0), .int, 0), (.aload_n 0, 11, 0, 0, .null, .int, 0), (.getfield 17, 14, 8, 11, .null, (.array .int), 17), (.bipush 8, 16, 0, 0, .int (8), .int, 0), (.iload_n 1, 17, 1, 0, .null, .int, 0), (.iadd, 18, 0, 0, .null, .int, 0), (.iaload, 19, 0, 0, .null, .int, 0), (.iconst 1, 20, 0, 0, .int (1), .int, 0), (.isub, 21, 0, 0, .null, .int, 0), (.invokestatic 84, 24, 136, 3, .null, .int, 135), (.ifCond .eq 7, 27, 31, 0, .null, .int, 0), (.iconst 1, 28, 0, 0, .int (1), .int, 0), (.goto 4, 31, 32, 0, .null, .int, 0)]
def k_166_31 : List Rw := [(.iconst 0, 32, 0, 0, .int (0), .int, 0)]
def k_166_32 : List Rw := [(.ireturn, 33, 0, 0, .null, .int, 0)]
def bl_166 : List (Nat × List Rw × Nat) := [(0, k_166_0, 99999), (31, k_166_31, 32), (32, k_166_32, 99999)]
set_option maxRecDepth 1000000 in
theorem ok_166 : bl_166.all (fun b => rowsB e_166 b.1 b.2.1 b.2.2) = true := by decide +kernel
-- FishGraderModel.leaves (I)I
abbrev e_167 : MIt := (⟨"FishGraderModel", "leaves", "(I)I"⟩, prog_11_method_113_code, 4, (some .int), 0, 0, 8, 1)
def k_167_0 : List Rw := [(.aload_n 0, 1, 0, 0, .null, .int, 0), (.getfield 30, 4, 8, 15, .null, (.array .int), 21), (.bipush 38, 6, 0, 0, .int (38), .int, 0), (.iload_n 1, 7, 1, 0, .null, .int, 0), (.iadd, 8, 0, 0, .null, .int, 0), (.iaload, 9, 0, 0, .null, .int, 0), (.istore_n 2, 10, 2, 0, .null, .int, 0), (.aload_n 0, 11, 0, 0, .null, .int, 0), (.getfield 30, 14, 8, 15, .null, (.array .int), 21), (.bipush 7, 16, 0, 0, .int (7), .int, 0), (.dup2, 17, 0, 0, .null, .int, 0), (.iaload, 18, 0, 0, .null, .int, 0), (.iconst 1, 19, 0, 0, .int (1), .int, 0), (.isub, 20, 0, 0, .null, .int, 0), (.iastore, 21, 0, 0, .null, .int, 0), (.iload_n 1, 22, 1, 0, .null, .int, 0), (.istore_n 3, 23, 3, 0, .null, .int, 0)]
def k_167_23 : List Rw := [(.iload_n 3, 24, 3, 0, .null, .int, 0), (.aload_n 0, 25, 0, 0, .null, .int, 0), (.getfield 30, 28, 8, 15, .null, (.array .int), 21), (.bipush 7, 30, 0, 0, .int (7), .int, 0), (.iaload, 31, 0, 0, .null, .int, 0), (.if_icmp .ge 29, 34, 60, 0, .null, .int, 0), (.aload_n 0, 35, 0, 0, .null, .int, 0), (.getfield 30, 38, 8, 15, .null, (.array .int), 21), (.bipush 38, 40, 0, 0, .int (38), .int, 0), (.iload_n 3, 41, 3, 0, .null, .int, 0), (.iadd, 42, 0, 0, .null, .int, 0), (.aload_n 0, 43, 0, 0, .null, .int, 0), (.getfield 30, 46, 8, 15, .null, (.array .int), 21), (.bipush 38, 48, 0, 0, .int (38), .int, 0), (.iload_n 3, 49, 3, 0, .null, .int, 0), (.iadd, 50, 0, 0, .null, .int, 0), (.iconst 1, 51, 0, 0, .int (1), .int, 0), (.iadd, 52, 0, 0, .null, .int, 0), (.iaload, 53, 0, 0, .null, .int, 0), (.iastore, 54, 0, 0, .null, .int, 0), (.iinc 3 1, 57, 3, 0, .int (1), .int, 0), (.goto (-34), 60, 23, 0, .null, .int, 0)]
def k_167_60 : List Rw := [(.iload_n 2, 61, 2, 0, .null, .int, 0), (.ireturn, 62, 0, 0, .null, .int, 0)]
def bl_167 : List (Nat × List Rw × Nat) := [(0, k_167_0, 23), (23, k_167_23, 99999), (60, k_167_60, 99999)]
set_option maxRecDepth 1000000 in
theorem ok_167 : bl_167.all (fun b => rowsB e_167 b.1 b.2.1 b.2.2) = true := by decide +kernel
-- FishGraderModel.puts ([III)I
abbrev e_168 : MIt := (⟨"FishGraderModel", "puts", "([III)I"⟩, prog_11_method_38_code, 6, (some .int), 2, 0, 8, 3)
def k_168_0 : List Rw := [(.aload_n 1, 1, 1, 0, .null, .int, 0), (.sipush 288, 4, 0, 0, .int (288), .int, 0), (.iload_n 2, 5, 2, 0, .null, .int, 0), (.iadd, 6, 0, 0, .null, .int, 0), (.iaload, 7, 0, 0, .null, .int, 0), (.istore 4, 9, 4, 0, .null, .int, 0), (.iload 4, 11, 4, 0, .null, .int, 0), (.iload_n 3, 12, 3, 0, .null, .int, 0), (.invokestatic 248, 15, 172, 2, .null, .int, 171), (.istore 5, 17, 5, 0, .null, .int, 0), (.aload_n 1, 18, 1, 0, .null, .int, 0), (.iload 5, 20, 5, 0, .null, .int, 0), (.dup2, 21, 0, 0, .null, .int, 0), (.iaload, 22, 0, 0, .null, .int, 0), (.aload_n 1, 23, 1, 0, .null, .int, 0), (.sipush 208, 26, 0, 0, .int (208), .int, 0), (.iload_n 2, 27, 2, 0, .null, .int, 0), (.iadd, 28, 0, 0, .null, .int, 0), (.iaload, 29, 0, 0, .null, .int, 0), (.iadd, 30, 0, 0, .null, .int, 0), (.iastore, 31, 0, 0, .null, .int, 0), (.aload_n 1, 32, 1, 0, .null, .int, 0), (.bipush 48, 34, 0, 0, .int (48), .int, 0), (.iload_n 2, 35, 2, 0, .null, .int, 0), (.iadd, 36, 0, 0, .null, .int, 0), (.iconst 4, 37, 0, 0, .int (4), .int, 0), (.iastore, 38, 0, 0, .null, .int, 0), (.aload_n 1, 39, 1, 0, .null, .int, 0), (.sipush 128, 42, 0, 0, .int (128), .int, 0), (.iload_n 2, 43, 2, 0, .null, .int, 0), (.iadd, 44, 0, 0, .null, .int, 0), (.iload_n 3, 45, 3, 0, .null, .int, 0), (.iastore, 46, 0, 0, .null, .int, 0), (.aload_n 1, 47, 1, 0, .null, .int, 0), (.iload 5, 49, 5, 0, .null, .int, 0), (.iaload, 50, 0, 0, .null, .int, 0), (.aload_n 1, 51, 1, 0, .null, .int, 0), (.bipush 10, 53, 0, 0, .int (10), .int, 0), (.iload 4, 55, 4, 0, .null, .int, 0), (.iadd, 56, 0, 0, .null, .int, 0), (.iaload, 57, 0, 0, .null, .int, 0), (.if_icmp .lt 14, 60, 71, 0, .null, .int, 0), (.aload_n 0, 61, 0, 0, .null, .int, 0), (.aload_n 1, 62, 1, 0, .null, .int, 0), (.iload 4, 64, 4, 0, .null, .int, 0), (.iload_n 3, 65, 3, 0, .null, .int, 0), (.invokevirtual 251, 68, 173, 4, .ref 8, .int, 172), (.goto 4, 71, 72, 0, .null, .int, 0)]
def k_168_71 : List Rw := [(.iconst (-1), 72, 0, 0, .int (-1), .int, 0)]
def k_168_72 : List Rw := [(.ireturn, 73, 0, 0, .null, .int, 0)]
def bl_168 : List (Nat × List Rw × Nat) := [(0, k_168_0, 99999), (71, k_168_71, 72), (72, k_168_72, 99999)]
set_option maxRecDepth 1000000 in
theorem ok_168 : bl_168.all (fun b => rowsB e_168 b.1 b.2.1 b.2.2) = true := by decide +kernel
-- FishGrader.combine (II)I
abbrev e_169 : MIt := (⟨"FishGrader", "combine", "(II)I"⟩, prog_1_method_59_code, 4, (some .int), 4, 0, 7, 2)
def k_169_0 : List Rw := [(.aload_n 0, 1, 0, 0, .null, .int, 0), (.iload_n 1, 2, 1, 0, .null, .int, 0), (.iload_n 2, 3, 2, 0, .null, .int, 0), (.invokevirtual 146, 6, 261, 3, .ref 7, .int, 260), (.aload_n 0, 7, 0, 0, .null, .int, 0), (.getfield 40, 10, 7, 7, .null, (.object "FishGrader$State"), 7), (.iload_n 1, 11, 1, 0, .null, .int, 0), (.iload_n 2, 12, 2, 0, .null, .int, 0), (.invokevirtual 282, 15, 265, 3, .ref 5, .int, 264), (.istore_n 3, 16, 3, 0, .null, .int, 0), (.iload_n 3, 17, 3, 0, .null, .int, 0), (.iconst (-1), 18, 0, 0, .int (-1), .int, 0), (.if_icmp .ne 14, 21, 32, 0, .null, .int, 0), (.new 306, 24, 3, 1, .int 1, .int, 5)]
def k_169_32 : List Rw := [(.aload_n 0, 33, 0, 0, .null, .int, 0), (.invokevirtual 303, 36, 253, 1, .ref 7, .int, 252), (.aload_n 0, 37, 0, 0, .null, .int, 0), (.getfield 40, 40, 7, 7, .null, (.object "FishGrader$State"), 7), (.iload_n 3, 41, 3, 0, .null, .int, 0), (.iload_n 1, 42, 1, 0, .null, .int, 0), (.iload_n 2, 43, 2, 0, .null, .int, 0), (.invokevirtual 311, 46, 266, 4, .ref 5, .int, 265), (.aload_n 0, 47, 0, 0, .null, .int, 0), (.getfield 40, 50, 7, 7, .null, (.object "FishGrader$State"), 7), (.getfield 156, 53, 5, 13, .null, (.object "FishGrader$Boxes"), 38), (.getfield 160, 56, 0, 0, .null, .int, 39), (.iconst 1, 57, 0, 0, .int (1), .int, 0), (.isub, 58, 0, 0, .null, .int, 0), (.ireturn, 59, 0, 0, .null, .int, 0)]
def bl_169 : List (Nat × List Rw × Nat) := [(0, k_169_0, 99999), (32, k_169_32, 99999)]
set_option maxRecDepth 1000000 in
theorem ok_169 : bl_169.all (fun b => rowsB e_169 b.1 b.2.1 b.2.2) = true := by decide +kernel
-- FishGraderModel.bestSet (II)I
abbrev e_170 : MIt := (⟨"FishGraderModel", "bestSet", "(II)I"⟩, prog_11_method_108_code, 8, (some .int), 1, 0, 8, 2)
def k_170_0 : List Rw := [(.iconst (-1), 1, 0, 0, .int (-1), .int, 0), (.istore_n 3, 2, 3, 0, .null, .int, 0), (.iconst 0, 3, 0, 0, .int (0), .int, 0), (.istore 4, 5, 4, 0, .null, .int, 0), (.iconst 1, 6, 0, 0, .int (1), .int, 0), (.istore 5, 8, 5, 0, .null, .int, 0)]
def k_170_8 : List Rw := [(.iload 5, 10, 5, 0, .null, .int, 0), (.iconst 1, 11, 0, 0, .int (1), .int, 0), (.aload_n 0, 12, 0, 0, .null, .int, 0), (.getfield 30, 15, 8, 15, .null, (.array .int), 21), (.bipush 7, 17, 0, 0, .int (7), .int, 0), (.iaload, 18, 0, 0, .null, .int, 0), (.ishl, 19, 0, 0, .null, .int, 0), (.if_icmp .ge 98, 22, 117, 0, .null, .int, 0), (.aload_n 0, 23, 0, 0, .null, .int, 0), (.iload 5, 25, 5, 0, .null, .int, 0), (.iload_n 1, 26, 1, 0, .null, .int, 0), (.invokevirtual 345, 29, 171, 3, .ref 8, .int, 170), (.istore 6, 31, 6, 0, .null, .int, 0), (.aload_n 0, 32, 0, 0, .null, .int, 0), (.getfield 30, 35, 8, 15, .null, (.array .int), 21), (.iload_n 1, 36, 1, 0, .null, .int, 0), (.iload_n 2, 37, 2, 0, .null, .int, 0), (.invokestatic 248, 40, 172, 2, .null, .int, 171), (.iaload, 41, 0, 0, .null, .int, 0), (.iload 6, 43, 6, 0, .null, .int, 0), (.iadd, 44, 0, 0, .null, .int, 0), (.aload_n 0, 45, 0, 0, .null, .int, 0), (.getfield 30, 48, 8, 15, .null, (.array .int), 21), (.bipush 10, 50, 0, 0, .int (10), .int, 0), (.iload_n 1, 51, 1, 0, .null, .int, 0), (.iadd, 52, 0, 0, .null, .int, 0), (.iaload, 53, 0, 0, .null, .int, 0), (.isub, 54, 0, 0, .null, .int, 0), (.istore 7, 56, 7, 0, .null, .int, 0), (.iload 6, 58, 6, 0, .null, .int, 0), (.iconst (-1), 59, 0, 0, .int (-1), .int, 0), (.if_icmp .eq 52, 62, 111, 0, .null, .int, 0), (.iload 7, 64, 7, 0, .null, .int, 0), (.ifCond .ge 6, 67, 70, 0, .null, .int, 0), (.goto 44, 70, 111, 0, .null, .int, 0)]
def k_170_70 : List Rw := [(.iload_n 3, 71, 3, 0, .null, .int, 0), (.iconst (-1), 72, 0, 0, .int (-1), .int, 0), (.if_icmp .eq 32, 75, 104, 0, .null, .int, 0), (.iload 7, 77, 7, 0, .null, .int, 0), (.iload 4, 79, 4, 0, .null, .int, 0), (.if_icmp .gt 32, 82, 111, 0, .null, .int, 0), (.iload 7, 84, 7, 0, .null, .int, 0), (.iload 4, 86, 4, 0, .null, .int, 0), (.if_icmp .ne 18, 89, 104, 0, .null, .int, 0), (.iload 5, 91, 5, 0, .null, .int, 0), (.invokestatic 348, 94, 267, 1, .null, .int, 266), (.iload_n 3, 95, 3, 0, .null, .int, 0), (.invokestatic 348, 98, 267, 1, .null, .int, 266), (.if_icmp .lt 6, 101, 104, 0, .null, .int, 0), (.goto 10, 104, 111, 0, .null, .int, 0)]
def k_170_104 : List Rw := [(.iload 5, 106, 5, 0, .null, .int, 0), (.istore_n 3, 107, 3, 0, .null, .int, 0), (.iload 7, 109, 7, 0, .null, .int, 0), (.istore 4, 111, 4, 0, .null, .int, 0)]
def k_170_111 : List Rw := [(.iinc 5 1, 114, 5, 0, .int (1), .int, 0), (.goto (-106), 117, 8, 0, .null, .int, 0)]
def k_170_117 : List Rw := [(.iload_n 3, 118, 3, 0, .null, .int, 0), (.ireturn, 119, 0, 0, .null, .int, 0)]
def bl_170 : List (Nat × List Rw × Nat) := [(0, k_170_0, 8), (8, k_170_8, 99999), (70, k_170_70, 99999), (104, k_170_104, 111), (111, k_170_111, 99999), (117, k_170_117, 99999)]
set_option maxRecDepth 1000000 in
theorem ok_170 : bl_170.all (fun b => rowsB e_170 b.1 b.2.1 b.2.2) = true := by decide +kernel
-- FishGraderModel.weightOfSet (II)I
abbrev e_171 : MIt := (⟨"FishGraderModel", "weightOfSet", "(II)I"⟩, prog_11_method_107_code, 5, (some .int), 0, 0, 8, 2)
def k_171_0 : List Rw := [(.iconst 0, 1, 0, 0, .int (0), .int, 0), (.istore_n 3, 2, 3, 0, .null, .int, 0), (.iconst 0, 3, 0, 0, .int (0), .int, 0), (.istore 4, 5, 4, 0, .null, .int, 0)]
def k_171_5 : List Rw := [(.iload 4, 7, 4, 0, .null, .int, 0), (.aload_n 0, 8, 0, 0, .null, .int, 0), (.getfield 30, 11, 8, 15, .null, (.array .int), 21), (.bipush 7, 13, 0, 0, .int (7), .int, 0), (.iaload, 14, 0, 0, .null, .int, 0), (.if_icmp .ge 68, 17, 82, 0, .null, .int, 0), (.iload_n 1, 18, 1, 0, .null, .int, 0), (.iload 4, 20, 4, 0, .null, .int, 0), (.ishr, 21, 0, 0, .null, .int, 0), (.iconst 1, 22, 0, 0, .int (1), .int, 0), (.iand, 23, 0, 0, .null, .int, 0), (.ifCond .ne 6, 26, 29, 0, .null, .int, 0), (.goto 50, 29, 76, 0, .null, .int, 0)]
def k_171_29 : List Rw := [(.aload_n 0, 30, 0, 0, .null, .int, 0), (.getfield 30, 33, 8, 15, .null, (.array .int), 21), (.sipush 288, 36, 0, 0, .int (288), .int, 0), (.aload_n 0, 37, 0, 0, .null, .int, 0), (.getfield 30, 40, 8, 15, .null, (.array .int), 21), (.bipush 38, 42, 0, 0, .int (38), .int, 0), (.iload 4, 44, 4, 0, .null, .int, 0), (.iadd, 45, 0, 0, .null, .int, 0), (.iaload, 46, 0, 0, .null, .int, 0), (.iadd, 47, 0, 0, .null, .int, 0), (.iaload, 48, 0, 0, .null, .int, 0), (.iload_n 2, 49, 2, 0, .null, .int, 0), (.if_icmp .eq 5, 52, 54, 0, .null, .int, 0), (.iconst (-1), 53, 0, 0, .int (-1), .int, 0), (.ireturn, 54, 0, 0, .null, .int, 0)]
def k_171_54 : List Rw := [(.iload_n 3, 55, 3, 0, .null, .int, 0), (.aload_n 0, 56, 0, 0, .null, .int, 0), (.getfield 30, 59, 8, 15, .null, (.array .int), 21), (.sipush 208, 62, 0, 0, .int (208), .int, 0), (.aload_n 0, 63, 0, 0, .null, .int, 0), (.getfield 30, 66, 8, 15, .null, (.array .int), 21), (.bipush 38, 68, 0, 0, .int (38), .int, 0), (.iload 4, 70, 4, 0, .null, .int, 0), (.iadd, 71, 0, 0, .null, .int, 0), (.iaload, 72, 0, 0, .null, .int, 0), (.iadd, 73, 0, 0, .null, .int, 0), (.iaload, 74, 0, 0, .null, .int, 0), (.iadd, 75, 0, 0, .null, .int, 0), (.istore_n 3, 76, 3, 0, .null, .int, 0)]
def k_171_76 : List Rw := [(.iinc 4 1, 79, 4, 0, .int (1), .int, 0), (.goto (-74), 82, 5, 0, .null, .int, 0)]
def k_171_82 : List Rw := [(.iload_n 3, 83, 3, 0, .null, .int, 0), (.ireturn, 84, 0, 0, .null, .int, 0)]
def bl_171 : List (Nat × List Rw × Nat) := [(0, k_171_0, 5), (5, k_171_5, 99999), (29, k_171_29, 99999), (54, k_171_54, 76), (76, k_171_76, 99999), (82, k_171_82, 99999)]
set_option maxRecDepth 1000000 in
theorem ok_171 : bl_171.all (fun b => rowsB e_171 b.1 b.2.1 b.2.2) = true := by decide +kernel
-- FishGraderModel.cell (II)I
abbrev e_172 : MIt := (⟨"FishGraderModel", "cell", "(II)I"⟩, prog_11_method_37_code, 2, (some .int), 0, 1, 8, 2)
def k_172_0 : List Rw := [(.bipush 26, 2, 0, 0, .int (26), .int, 0), (.iconst 3, 3, 0, 0, .int (3), .int, 0), (.iload_n 0, 4, 0, 0, .null, .int, 0), (.imul, 5, 0, 0, .null, .int, 0), (.iadd, 6, 0, 0, .null, .int, 0), (.iload_n 1, 7, 1, 0, .null, .int, 0), (.iadd, 8, 0, 0, .null, .int, 0), (.ireturn, 9, 0, 0, .null, .int, 0)]
def bl_172 : List (Nat × List Rw × Nat) := [(0, k_172_0, 99999)]
set_option maxRecDepth 1000000 in
theorem ok_172 : bl_172.all (fun b => rowsB e_172 b.1 b.2.1 b.2.2) = true := by decide +kernel
-- FishGraderModel.closes ([III)I
abbrev e_173 : MIt := (⟨"FishGraderModel", "closes", "([III)I"⟩, prog_11_method_39_code, 7, (some .int), 1, 0, 8, 3)
def k_173_0 : List Rw := [(.iload_n 2, 1, 2, 0, .null, .int, 0), (.iload_n 3, 2, 3, 0, .null, .int, 0), (.invokestatic 248, 5, 172, 2, .null, .int, 171), (.istore 4, 7, 4, 0, .null, .int, 0), (.aload_n 1, 8, 1, 0, .null, .int, 0), (.bipush 8, 10, 0, 0, .int (8), .int, 0), (.iaload, 11, 0, 0, .null, .int, 0), (.istore 5, 13, 5, 0, .null, .int, 0), (.aload_n 1, 14, 1, 0, .null, .int, 0), (.bipush 8, 16, 0, 0, .int (8), .int, 0), (.dup2, 17, 0, 0, .null, .int, 0), (.iaload, 18, 0, 0, .null, .int, 0), (.iconst 1, 19, 0, 0, .int (1), .int, 0), (.iadd, 20, 0, 0, .null, .int, 0), (.iastore, 21, 0, 0, .null, .int, 0), (.aload_n 1, 22, 1, 0, .null, .int, 0), (.sipush 688, 25, 0, 0, .int (688), .int, 0), (.iload 5, 27, 5, 0, .null, .int, 0), (.iadd, 28, 0, 0, .null, .int, 0), (.iload_n 2, 29, 2, 0, .null, .int, 0), (.iastore, 30, 0, 0, .null, .int, 0), (.aload_n 1, 31, 1, 0, .null, .int, 0), (.sipush 768, 34, 0, 0, .int (768), .int, 0), (.iload 5, 36, 5, 0, .null, .int, 0), (.iadd, 37, 0, 0, .null, .int, 0), (.aload_n 1, 38, 1, 0, .null, .int, 0), (.iload 4, 40, 4, 0, .null, .int, 0), (.iaload, 41, 0, 0, .null, .int, 0), (.iastore, 42, 0, 0, .null, .int, 0), (.aload_n 1, 43, 1, 0, .null, .int, 0), (.sipush 848, 46, 0, 0, .int (848), .int, 0), (.iload 5, 48, 5, 0, .null, .int, 0), (.iadd, 49, 0, 0, .null, .int, 0), (.aload_n 1, 50, 1, 0, .null, .int, 0), (.iload 4, 52, 4, 0, .null, .int, 0), (.iaload, 53, 0, 0, .null, .int, 0), (.aload_n 1, 54, 1, 0, .null, .int, 0), (.bipush 10, 56, 0, 0, .int (10), .int, 0), (.iload_n 2, 57, 2, 0, .null, .int, 0), (.iadd, 58, 0, 0, .null, .int, 0), (.iaload, 59, 0, 0, .null, .int, 0), (.isub, 60, 0, 0, .null, .int, 0), (.iastore, 61, 0, 0, .null, .int, 0), (.aload_n 1, 62, 1, 0, .null, .int, 0), (.sipush 928, 65, 0, 0, .int (928), .int, 0), (.iload 5, 67, 5, 0, .null, .int, 0), (.iadd, 68, 0, 0, .null, .int, 0), (.aload_n 1, 69, 1, 0, .null, .int, 0), (.iconst 0, 70, 0, 0, .int (0), .int, 0), (.iaload, 71, 0, 0, .null, .int, 0), (.iastore, 72, 0, 0, .null, .int, 0), (.aload_n 1, 73, 1, 0, .null, .int, 0), (.sipush 1008, 76, 0, 0, .int (1008), .int, 0), (.iload 5, 78, 5, 0, .null, .int, 0), (.iadd, 79, 0, 0, .null, .int, 0), (.aload_n 1, 80, 1, 0, .null, .int, 0), (.iconst 0, 81, 0, 0, .int (0), .int, 0), (.iaload, 82, 0, 0, .null, .int, 0), (.aload_n 0, 83, 0, 0, .null, .int, 0), (.getfield 17, 86, 8, 11, .null, (.array .int), 17), (.bipush 6, 88, 0, 0, .int (6), .int, 0), (.iaload, 89, 0, 0, .null, .int, 0), (.iadd, 90, 0, 0, .null, .int, 0), (.iastore, 91, 0, 0, .null, .int, 0), (.aload_n 1, 92, 1, 0, .null, .int, 0), (.sipush 1088, 95, 0, 0, .int (1088), .int, 0), (.iload 5, 97, 5, 0, .null, .int, 0), (.iadd, 98, 0, 0, .null, .int, 0), (.iconst (-1), 99, 0, 0, .int (-1), .int, 0), (.iastore, 100, 0, 0, .null, .int, 0), (.aload_n 1, 101, 1, 0, .null, .int, 0), (.iload 4, 103, 4, 0, .null, .int, 0), (.iconst 0, 104, 0, 0, .int (0), .int, 0), (.iastore, 105, 0, 0, .null, .int, 0), (.iconst 0, 106, 0, 0, .int (0), .int, 0), (.istore 6, 108, 6, 0, .null, .int, 0)]
def k_173_108 : List Rw := [(.iload 6, 110, 6, 0, .null, .int, 0), (.aload_n 1, 111, 1, 0, .null, .int, 0), (.bipush 9, 113, 0, 0, .int (9), .int, 0), (.iaload, 114, 0, 0, .null, .int, 0), (.if_icmp .ge 65, 117, 179, 0, .null, .int, 0), (.aload_n 1, 118, 1, 0, .null, .int, 0), (.bipush 48, 120, 0, 0, .int (48), .int, 0), (.iload 6, 122, 6, 0, .null, .int, 0), (.iadd, 123, 0, 0, .null, .int, 0), (.iaload, 124, 0, 0, .null, .int, 0), (.iconst 4, 125, 0, 0, .int (4), .int, 0), (.if_icmp .ne 48, 128, 173, 0, .null, .int, 0), (.aload_n 1, 129, 1, 0, .null, .int, 0), (.sipush 288, 132, 0, 0, .int (288), .int, 0), (.iload 6, 134, 6, 0, .null, .int, 0), (.iadd, 135, 0, 0, .null, .int, 0), (.iaload, 136, 0, 0, .null, .int, 0), (.iload_n 2, 137, 2, 0, .null, .int, 0), (.if_icmp .ne 36, 140, 173, 0, .null, .int, 0), (.aload_n 1, 141, 1, 0, .null, .int, 0), (.sipush 128, 144, 0, 0, .int (128), .int, 0), (.iload 6, 146, 6, 0, .null, .int, 0), (.iadd, 147, 0, 0, .null, .int, 0), (.iaload, 148, 0, 0, .null, .int, 0), (.iload_n 3, 149, 3, 0, .null, .int, 0), (.if_icmp .eq 6, 152, 155, 0, .null, .int, 0), (.goto 21, 155, 173, 0, .null, .int, 0)]
def k_173_155 : List Rw := [(.aload_n 1, 156, 1, 0, .null, .int, 0), (.bipush 48, 158, 0, 0, .int (48), .int, 0), (.iload 6, 160, 6, 0, .null, .int, 0), (.iadd, 161, 0, 0, .null, .int, 0), (.iconst 5, 162, 0, 0, .int (5), .int, 0), (.iastore, 163, 0, 0, .null, .int, 0), (.aload_n 1, 164, 1, 0, .null, .int, 0), (.sipush 128, 167, 0, 0, .int (128), .int, 0), (.iload 6, 169, 6, 0, .null, .int, 0), (.iadd, 170, 0, 0, .null, .int, 0), (.iload 5, 172, 5, 0, .null, .int, 0), (.iastore, 173, 0, 0, .null, .int, 0)]
def k_173_173 : List Rw := [(.iinc 6 1, 176, 6, 0, .int (1), .int, 0), (.goto (-68), 179, 108, 0, .null, .int, 0)]
def k_173_179 : List Rw := [(.iload 5, 181, 5, 0, .null, .int, 0), (.ireturn, 182, 0, 0, .null, .int, 0)]
def bl_173 : List (Nat × List Rw × Nat) := [(0, k_173_0, 108), (108, k_173_108, 99999), (155, k_173_155, 173), (173, k_173_173, 99999), (179, k_173_179, 99999)]
set_option maxRecDepth 1000000 in
theorem ok_173 : bl_173.all (fun b => rowsB e_173 b.1 b.2.1 b.2.2) = true := by decide +kernel
-- FishGrader.advance (I)I
abbrev e_174 : MIt := (⟨"FishGrader", "advance", "(I)I"⟩, prog_1_method_58_code, 3, (some .int), 6, 0, 7, 1)
def k_174_0 : List Rw := [(.aload_n 0, 1, 0, 0, .null, .int, 0), (.invokevirtual 177, 4, 236, 1, .ref 7, .int, 235), (.iload_n 1, 5, 1, 0, .null, .int, 0), (.iconst 1, 6, 0, 0, .int (1), .int, 0), (.bipush 100, 8, 0, 0, .int (100), .int, 0), (.invokestatic 210, 11, 251, 3, .null, .int, 250), (.aload_n 0, 12, 0, 0, .null, .int, 0), (.invokevirtual 303, 15, 253, 1, .ref 7, .int, 252), (.aload_n 0, 16, 0, 0, .null, .int, 0), (.getfield 40, 19, 7, 7, .null, (.object "FishGrader$State"), 7), (.getfield 156, 22, 5, 13, .null, (.object "FishGrader$Boxes"), 38), (.getfield 160, 25, 0, 0, .null, .int, 39), (.istore_n 2, 26, 2, 0, .null, .int, 0), (.aload_n 0, 27, 0, 0, .null, .int, 0), (.getfield 40, 30, 7, 7, .null, (.object "FishGrader$State"), 7), (.aload_n 0, 31, 0, 0, .null, .int, 0), (.getfield 30, 34, 7, 5, .null, (.object "FishGrader$Setup"), 5), (.iload_n 1, 35, 1, 0, .null, .int, 0), (.invokevirtual 253, 38, 268, 3, .ref 5, .int, 267), (.aload_n 0, 39, 0, 0, .null, .int, 0), (.getfield 40, 42, 7, 7, .null, (.object "FishGrader$State"), 7), (.getfield 156, 45, 5, 13, .null, (.object "FishGrader$Boxes"), 38), (.getfield 160, 48, 0, 0, .null, .int, 39), (.iload_n 2, 49, 2, 0, .null, .int, 0), (.isub, 50, 0, 0, .null, .int, 0), (.ireturn, 51, 0, 0, .null, .int, 0)]
def bl_174 : List (Nat × List Rw × Nat) := [(0, k_174_0, 99999)]
set_option maxRecDepth 1000000 in
theorem ok_174 : bl_174.all (fun b => rowsB e_174 b.1 b.2.1 b.2.2) = true := by decide +kernel
-- FishGraderModel.areTicks (III)Z
abbrev e_175 : MIt := (⟨"FishGraderModel", "areTicks", "(III)Z"⟩, prog_11_method_97_code, 4, (some .boolean), 1, 0, 8, 3)
def k_175_0 : List Rw := [(.aload_n 0, 1, 0, 0, .null, .int, 0), (.iconst 1, 2, 0, 0, .int (1), .int, 0), (.invokevirtual 288, 5, 138, 2, .ref 8, .int, 137), (.ifCond .ne 5, 8, 10, 0, .null, .int, 0), (.iconst 0, 9, 0, 0, .int (0), .int, 0), (.ireturn, 10, 0, 0, .null, .int, 0)]
def k_175_10 : List Rw := [(.aload_n 0, 11, 0, 0, .null, .int, 0), (.iload_n 1, 12, 1, 0, .null, .int, 0), (.iconst 1, 13, 0, 0, .int (1), .int, 0), (.iload_n 2, 14, 2, 0, .null, .int, 0), (.invokestatic 84, 17, 136, 3, .null, .int, 135), (.ifCond .eq 7, 20, 24, 0, .null, .int, 0), (.iconst 0, 21, 0, 0, .int (0), .int, 0), (.goto 4, 24, 25, 0, .null, .int, 0)]
def k_175_24 : List Rw := [(.iload_n 3, 25, 3, 0, .null, .int, 0)]
def k_175_25 : List Rw := [(.putfield 51, 28, 8, 0, .null, .int, 29), (.aload_n 0, 29, 0, 0, .null, .int, 0), (.getfield 51, 32, 8, 0, .null, .int, 29), (.ifCond .ne 7, 35, 39, 0, .null, .int, 0), (.iconst 1, 36, 0, 0, .int (1), .int, 0), (.goto 4, 39, 40, 0, .null, .int, 0)]
def k_175_39 : List Rw := [(.iconst 0, 40, 0, 0, .int (0), .int, 0)]
def k_175_40 : List Rw := [(.ireturn, 41, 0, 0, .null, .int, 0)]
def bl_175 : List (Nat × List Rw × Nat) := [(0, k_175_0, 99999), (10, k_175_10, 99999), (24, k_175_24, 25), (25, k_175_25, 99999), (39, k_175_39, 40), (40, k_175_40, 99999)]
set_option maxRecDepth 1000000 in
theorem ok_175 : bl_175.all (fun b => rowsB e_175 b.1 b.2.1 b.2.2) = true := by decide +kernel
-- FishGraderModel.ticks ([II)V
abbrev e_176 : MIt := (⟨"FishGraderModel", "ticks", "([II)V"⟩, prog_11_method_45_code, 4, none, 5, 0, 8, 2)
def k_176_0 : List Rw := [(.iconst 0, 1, 0, 0, .int (0), .int, 0), (.istore_n 3, 2, 3, 0, .null, .int, 0)]
def k_176_2 : List Rw := [(.iload_n 3, 3, 3, 0, .null, .int, 0), (.iload_n 2, 4, 2, 0, .null, .int, 0), (.if_icmp .ge 14, 7, 18, 0, .null, .int, 0), (.aload_n 0, 8, 0, 0, .null, .int, 0), (.aload_n 1, 9, 1, 0, .null, .int, 0), (.invokevirtual 276, 12, 187, 2, .ref 8, .int, 186), (.iinc 3 1, 15, 3, 0, .int (1), .int, 0), (.goto (-13), 18, 2, 0, .null, .int, 0)]
def k_176_18 : List Rw := [(.return_, 19, 0, 0, .null, .int, 0)]
def bl_176 : List (Nat × List Rw × Nat) := [(0, k_176_0, 2), (2, k_176_2, 99999), (18, k_176_18, 99999)]
set_option maxRecDepth 1000000 in
theorem ok_176 : bl_176.all (fun b => rowsB e_176 b.1 b.2.1 b.2.2) = true := by decide +kernel
-- FishGrader.iceNeeded ()I
abbrev e_177 : MIt := (⟨"FishGrader", "iceNeeded", "()I"⟩, prog_1_method_54_code, 1, (some .int), 2, 0, 7, 0)
def k_177_0 : List Rw := [(.aload_n 0, 1, 0, 0, .null, .int, 0), (.invokevirtual 177, 4, 236, 1, .ref 7, .int, 235), (.aload_n 0, 5, 0, 0, .null, .int, 0), (.getfield 40, 8, 7, 7, .null, (.object "FishGrader$State"), 7), (.aload_n 0, 9, 0, 0, .null, .int, 0), (.getfield 30, 12, 7, 5, .null, (.object "FishGrader$Setup"), 5), (.invokevirtual 293, 15, 269, 2, .ref 5, .int, 268), (.ireturn, 16, 0, 0, .null, .int, 0)]
def bl_177 : List (Nat × List Rw × Nat) := [(0, k_177_0, 99999)]
set_option maxRecDepth 1000000 in
theorem ok_177 : bl_177.all (fun b => rowsB e_177 b.1 b.2.1 b.2.2) = true := by decide +kernel
-- FishGraderModel.needOf ([II)I
abbrev e_178 : MIt := (⟨"FishGraderModel", "needOf", "([II)I"⟩, prog_11_method_33_code, 3, (some .int), 0, 0, 8, 2)
def k_178_0 : List Rw := [(.aload_n 1, 1, 1, 0, .null, .int, 0), (.sipush 768, 4, 0, 0, .int (768), .int, 0), (.iload_n 2, 5, 2, 0, .null, .int, 0), (.iadd, 6, 0, 0, .null, .int, 0), (.iaload, 7, 0, 0, .null, .int, 0), (.aload_n 0, 8, 0, 0, .null, .int, 0), (.getfield 17, 11, 8, 11, .null, (.array .int), 17), (.iconst 3, 12, 0, 0, .int (3), .int, 0), (.iaload, 13, 0, 0, .null, .int, 0), (.imul, 14, 0, 0, .null, .int, 0), (.bipush 99, 16, 0, 0, .int (99), .int, 0), (.iadd, 17, 0, 0, .null, .int, 0), (.bipush 100, 19, 0, 0, .int (100), .int, 0), (.idiv, 20, 0, 0, .null, .int, 0), (.ireturn, 21, 0, 0, .null, .int, 0)]
def bl_178 : List (Nat × List Rw × Nat) := [(0, k_178_0, 99999)]
set_option maxRecDepth 1000000 in
theorem ok_178 : bl_178.all (fun b => rowsB e_178 b.1 b.2.1 b.2.2) = true := by decide +kernel
-- FishGrader.lookahead (III)I
abbrev e_179 : MIt := (⟨"FishGrader", "lookahead", "(III)I"⟩, prog_1_method_52_code, 9, (some .int), 3, 0, 7, 3)
def k_179_0 : List Rw := [(.aload_n 0, 1, 0, 0, .null, .int, 0), (.iload_n 1, 2, 1, 0, .null, .int, 0), (.iload_n 2, 3, 2, 0, .null, .int, 0), (.invokevirtual 146, 6, 261, 3, .ref 7, .int, 260), (.iload_n 3, 7, 3, 0, .null, .int, 0), (.iconst 1, 8, 0, 0, .int (1), .int, 0), (.bipush 12, 10, 0, 0, .int (12), .int, 0), (.invokestatic 210, 13, 251, 3, .null, .int, 250), (.aload_n 0, 14, 0, 0, .null, .int, 0), (.getfield 40, 17, 7, 7, .null, (.object "FishGrader$State"), 7), (.getfield 108, 20, 5, 12, .null, (.object "FishGrader$Items"), 32), (.iload_n 1, 21, 1, 0, .null, .int, 0), (.iload_n 3, 22, 3, 0, .null, .int, 0), (.aload_n 0, 23, 0, 0, .null, .int, 0), (.getfield 67, 26, 7, 14, .null, (.array .int), 14), (.invokevirtual 285, 29, 270, 4, .ref 1, .int, 269), (.istore 4, 31, 4, 0, .null, .int, 0), (.aload_n 0, 32, 0, 0, .null, .int, 0), (.getfield 40, 35, 7, 7, .null, (.object "FishGrader$State"), 7), (.getfield 234, 38, 5, 7, .null, (.array .int), 82), (.iload_n 1, 39, 1, 0, .null, .int, 0), (.iaload, 40, 0, 0, .null, .int, 0), (.aload_n 0, 41, 0, 0, .null, .int, 0), (.getfield 40, 44, 7, 7, .null, (.object "FishGrader$State"), 7), (.getfield 150, 47, 5, 11, .null, (.array .int), 87), (.iload_n 1, 48, 1, 0, .null, .int, 0), (.iconst 3, 49, 0, 0, .int (3), .int, 0), (.imul, 50, 0, 0, .null, .int, 0), (.iload_n 2, 51, 2, 0, .null, .int, 0), (.iadd, 52, 0, 0, .null, .int, 0), (.iaload, 53, 0, 0, .null, .int, 0), (.isub, 54, 0, 0, .null, .int, 0), (.istore 5, 56, 5, 0, .null, .int, 0), (.iconst (-1), 57, 0, 0, .int (-1), .int, 0), (.istore 6, 59, 6, 0, .null, .int, 0), (.iconst 1, 60, 0, 0, .int (1), .int, 0), (.istore 7, 62, 7, 0, .null, .int, 0)]
def k_179_62 : List Rw := [(.iload 7, 64, 7, 0, .null, .int, 0), (.iconst 1, 65, 0, 0, .int (1), .int, 0), (.iload 4, 67, 4, 0, .null, .int, 0), (.ishl, 68, 0, 0, .null, .int, 0), (.if_icmp .ge 45, 71, 113, 0, .null, .int, 0), (.aload_n 0, 72, 0, 0, .null, .int, 0), (.getfield 67, 75, 7, 14, .null, (.array .int), 14), (.iload 7, 77, 7, 0, .null, .int, 0), (.invokestatic 289, 80, 271, 2, .null, .int, 270), (.iload 5, 82, 5, 0, .null, .int, 0), (.isub, 83, 0, 0, .null, .int, 0), (.istore 8, 85, 8, 0, .null, .int, 0), (.iload 8, 87, 8, 0, .null, .int, 0), (.ifCond .lt 20, 90, 107, 0, .null, .int, 0), (.iload 6, 92, 6, 0, .null, .int, 0), (.iconst (-1), 93, 0, 0, .int (-1), .int, 0), (.if_icmp .eq 10, 96, 103, 0, .null, .int, 0), (.iload 8, 98, 8, 0, .null, .int, 0), (.iload 6, 100, 6, 0, .null, .int, 0), (.if_icmp .ge 7, 103, 107, 0, .null, .int, 0)]
def k_179_103 : List Rw := [(.iload 8, 105, 8, 0, .null, .int, 0), (.istore 6, 107, 6, 0, .null, .int, 0)]
def k_179_107 : List Rw := [(.iinc 7 1, 110, 7, 0, .int (1), .int, 0), (.goto (-48), 113, 62, 0, .null, .int, 0)]
def k_179_113 : List Rw := [(.iload 6, 115, 6, 0, .null, .int, 0), (.ireturn, 116, 0, 0, .null, .int, 0)]
def bl_179 : List (Nat × List Rw × Nat) := [(0, k_179_0, 62), (62, k_179_62, 103), (103, k_179_103, 107), (107, k_179_107, 99999), (113, k_179_113, 99999)]
set_option maxRecDepth 1000000 in
theorem ok_179 : bl_179.all (fun b => rowsB e_179 b.1 b.2.1 b.2.2) = true := by decide +kernel
-- FishGrader.combination (II)I
abbrev e_180 : MIt := (⟨"FishGrader", "combination", "(II)I"⟩, prog_1_method_51_code, 3, (some .int), 3, 0, 7, 2)
def k_180_0 : List Rw := [(.aload_n 0, 1, 0, 0, .null, .int, 0), (.iload_n 1, 2, 1, 0, .null, .int, 0), (.iload_n 2, 3, 2, 0, .null, .int, 0), (.invokevirtual 146, 6, 261, 3, .ref 7, .int, 260), (.aload_n 0, 7, 0, 0, .null, .int, 0), (.getfield 40, 10, 7, 7, .null, (.object "FishGrader$State"), 7), (.iload_n 1, 11, 1, 0, .null, .int, 0), (.iload_n 2, 12, 2, 0, .null, .int, 0), (.invokevirtual 282, 15, 265, 3, .ref 5, .int, 264), (.ireturn, 16, 0, 0, .null, .int, 0)]
def bl_180 : List (Nat × List Rw × Nat) := [(0, k_180_0, 99999)]
set_option maxRecDepth 1000000 in
theorem ok_180 : bl_180.all (fun b => rowsB e_180 b.1 b.2.1 b.2.2) = true := by decide +kernel
-- FishGrader.bestLimit (I)I
abbrev e_181 : MIt := (⟨"FishGrader", "bestLimit", "(I)I"⟩, prog_1_method_50_code, 6, (some .int), 6, 0, 7, 1)
def k_181_0 : List Rw := [(.aload_n 0, 1, 0, 0, .null, .int, 0), (.invokevirtual 177, 4, 236, 1, .ref 7, .int, 235), (.iload_n 1, 5, 1, 0, .null, .int, 0), (.iconst 1, 6, 0, 0, .int (1), .int, 0), (.bipush 60, 8, 0, 0, .int (60), .int, 0), (.invokestatic 210, 11, 251, 3, .null, .int, 250), (.iconst 0, 12, 0, 0, .int (0), .int, 0), (.istore_n 2, 13, 2, 0, .null, .int, 0), (.ldc 209, 15, 0, 0, .int (2147483647), .int, 2), (.istore_n 3, 16, 3, 0, .null, .int, 0), (.iconst 0, 17, 0, 0, .int (0), .int, 0), (.istore 4, 19, 4, 0, .null, .int, 0)]
def k_181_19 : List Rw := [(.iload 4, 21, 4, 0, .null, .int, 0), (.sipush 1000, 24, 0, 0, .int (1000), .int, 0), (.if_icmp .gt 60, 27, 84, 0, .null, .int, 0), (.aload_n 0, 28, 0, 0, .null, .int, 0), (.invokevirtual 250, 31, 272, 1, .ref 7, .int, 271), (.aload_n 0, 32, 0, 0, .null, .int, 0), (.getfield 44, 35, 7, 8, .null, (.object "FishGrader$State"), 8), (.iload 4, 37, 4, 0, .null, .int, 0), (.putfield 279, 40, 5, 2, .null, .int, 83), (.aload_n 0, 41, 0, 0, .null, .int, 0), (.getfield 44, 44, 7, 8, .null, (.object "FishGrader$State"), 8), (.aload_n 0, 45, 0, 0, .null, .int, 0), (.getfield 30, 48, 7, 5, .null, (.object "FishGrader$Setup"), 5), (.iload_n 1, 49, 1, 0, .null, .int, 0), (.invokevirtual 253, 52, 268, 3, .ref 5, .int, 267), (.aload_n 0, 53, 0, 0, .null, .int, 0), (.invokevirtual 261, 56, 273, 1, .ref 7, .int, 272), (.bipush 100, 58, 0, 0, .int (100), .int, 0), (.aload_n 0, 59, 0, 0, .null, .int, 0), (.invokevirtual 257, 62, 274, 1, .ref 7, .int, 273), (.imul, 63, 0, 0, .null, .int, 0), (.isub, 64, 0, 0, .null, .int, 0), (.istore 5, 66, 5, 0, .null, .int, 0), (.iload 5, 68, 5, 0, .null, .int, 0), (.iload_n 3, 69, 3, 0, .null, .int, 0), (.if_icmp .ge 9, 72, 78, 0, .null, .int, 0), (.iload 5, 74, 5, 0, .null, .int, 0), (.istore_n 3, 75, 3, 0, .null, .int, 0), (.iload 4, 77, 4, 0, .null, .int, 0), (.istore_n 2, 78, 2, 0, .null, .int, 0)]
def k_181_78 : List Rw := [(.iinc 4 10, 81, 4, 0, .int (10), .int, 0), (.goto (-62), 84, 19, 0, .null, .int, 0)]
def k_181_84 : List Rw := [(.iload_n 2, 85, 2, 0, .null, .int, 0), (.ireturn, 86, 0, 0, .null, .int, 0)]
def bl_181 : List (Nat × List Rw × Nat) := [(0, k_181_0, 19), (19, k_181_19, 78), (78, k_181_78, 99999), (84, k_181_84, 99999)]
set_option maxRecDepth 1000000 in
theorem ok_181 : bl_181.all (fun b => rowsB e_181 b.1 b.2.1 b.2.2) = true := by decide +kernel
-- FishGraderModel.tries ()V
abbrev e_182 : MIt := (⟨"FishGraderModel", "tries", "()V"⟩, prog_11_method_96_code, 1, none, 1, 0, 8, 0)
def k_182_0 : List Rw := [(.aload_n 0, 1, 0, 0, .null, .int, 0), (.getfield 30, 4, 8, 15, .null, (.array .int), 21), (.iconst 0, 5, 0, 0, .int (0), .int, 0), (.aload_n 0, 6, 0, 0, .null, .int, 0), (.getfield 36, 9, 8, 17, .null, (.array .int), 23), (.iconst 0, 10, 0, 0, .int (0), .int, 0), (.invokestatic 224, 13, 150, 4, .null, .int, 149), (.return_, 14, 0, 0, .null, .int, 0)]
def bl_182 : List (Nat × List Rw × Nat) := [(0, k_182_0, 99999)]
set_option maxRecDepth 1000000 in
theorem ok_182 : bl_182.all (fun b => rowsB e_182 b.1 b.2.1 b.2.2) = true := by decide +kernel
-- FishGrader.bestMove (II)I
abbrev e_183 : MIt := (⟨"FishGrader", "bestMove", "(II)I"⟩, prog_1_method_49_code, 8, (some .int), 6, 0, 7, 2)
def k_183_0 : List Rw := [(.aload_n 0, 1, 0, 0, .null, .int, 0), (.invokevirtual 177, 4, 236, 1, .ref 7, .int, 235), (.iload_n 1, 5, 1, 0, .null, .int, 0), (.iconst 1, 6, 0, 0, .int (1), .int, 0), (.ldc_w 268, 9, 0, 0, .int (999999), .int, 1), (.invokestatic 210, 12, 251, 3, .null, .int, 250), (.iload_n 2, 13, 2, 0, .null, .int, 0), (.iconst 1, 14, 0, 0, .int (1), .int, 0), (.bipush 100, 16, 0, 0, .int (100), .int, 0), (.invokestatic 210, 19, 251, 3, .null, .int, 250), (.aload_n 0, 20, 0, 0, .null, .int, 0), (.invokevirtual 250, 23, 272, 1, .ref 7, .int, 271), (.aload_n 0, 24, 0, 0, .null, .int, 0), (.getfield 44, 27, 7, 8, .null, (.object "FishGrader$State"), 8), (.aload_n 0, 28, 0, 0, .null, .int, 0), (.getfield 30, 31, 7, 5, .null, (.object "FishGrader$Setup"), 5), (.iload_n 2, 32, 2, 0, .null, .int, 0), (.invokevirtual 253, 35, 268, 3, .ref 5, .int, 267), (.aload_n 0, 36, 0, 0, .null, .int, 0), (.getfield 44, 39, 7, 8, .null, (.object "FishGrader$State"), 8), (.aload_n 0, 40, 0, 0, .null, .int, 0), (.getfield 30, 43, 7, 5, .null, (.object "FishGrader$Setup"), 5), (.invokevirtual 269, 46, 242, 2, .ref 5, .int, 241), (.istore_n 3, 47, 3, 0, .null, .int, 0), (.iconst (-1), 48, 0, 0, .int (-1), .int, 0), (.istore 4, 50, 4, 0, .null, .int, 0), (.iconst 0, 51, 0, 0, .int (0), .int, 0), (.istore 5, 53, 5, 0, .null, .int, 0)]
def k_183_53 : List Rw := [(.iload 5, 55, 5, 0, .null, .int, 0), (.aload_n 0, 56, 0, 0, .null, .int, 0), (.getfield 30, 59, 7, 5, .null, (.object "FishGrader$Setup"), 5), (.getfield 117, 62, 4, 11, .null, .int, 40), (.if_icmp .ge 108, 65, 170, 0, .null, .int, 0), (.iconst 0, 66, 0, 0, .int (0), .int, 0), (.istore 6, 68, 6, 0, .null, .int, 0)]
def k_183_68 : List Rw := [(.iload 6, 70, 6, 0, .null, .int, 0), (.aload_n 0, 71, 0, 0, .null, .int, 0), (.getfield 30, 74, 7, 5, .null, (.object "FishGrader$Setup"), 5), (.getfield 117, 77, 4, 11, .null, .int, 40), (.if_icmp .ge 87, 80, 164, 0, .null, .int, 0), (.aload_n 0, 81, 0, 0, .null, .int, 0), (.getfield 40, 84, 7, 7, .null, (.object "FishGrader$State"), 7), (.iload 5, 86, 5, 0, .null, .int, 0), (.iload 6, 88, 6, 0, .null, .int, 0), (.iload_n 1, 89, 1, 0, .null, .int, 0), (.invokevirtual 272, 92, 252, 4, .ref 5, .int, 251), (.ifCond .ne 6, 95, 98, 0, .null, .int, 0), (.goto 63, 98, 158, 0, .null, .int, 0)]
def k_183_98 : List Rw := [(.aload_n 0, 99, 0, 0, .null, .int, 0), (.invokevirtual 250, 102, 272, 1, .ref 7, .int, 271), (.aload_n 0, 103, 0, 0, .null, .int, 0), (.getfield 44, 106, 7, 8, .null, (.object "FishGrader$State"), 8), (.iload 5, 108, 5, 0, .null, .int, 0), (.iload 6, 110, 6, 0, .null, .int, 0), (.iload_n 1, 111, 1, 0, .null, .int, 0), (.invokevirtual 276, 114, 254, 4, .ref 5, .int, 253), (.aload_n 0, 115, 0, 0, .null, .int, 0), (.getfield 44, 118, 7, 8, .null, (.object "FishGrader$State"), 8), (.aload_n 0, 119, 0, 0, .null, .int, 0), (.getfield 30, 122, 7, 5, .null, (.object "FishGrader$Setup"), 5), (.iload_n 2, 123, 2, 0, .null, .int, 0), (.invokevirtual 253, 126, 268, 3, .ref 5, .int, 267), (.aload_n 0, 127, 0, 0, .null, .int, 0), (.getfield 44, 130, 7, 8, .null, (.object "FishGrader$State"), 8), (.aload_n 0, 131, 0, 0, .null, .int, 0), (.getfield 30, 134, 7, 5, .null, (.object "FishGrader$Setup"), 5), (.invokevirtual 269, 137, 242, 2, .ref 5, .int, 241), (.istore 7, 139, 7, 0, .null, .int, 0), (.iload 7, 141, 7, 0, .null, .int, 0), (.iload_n 3, 142, 3, 0, .null, .int, 0), (.if_icmp .le 16, 145, 158, 0, .null, .int, 0), (.iload 7, 147, 7, 0, .null, .int, 0), (.istore_n 3, 148, 3, 0, .null, .int, 0), (.bipush 10, 150, 0, 0, .int (10), .int, 0), (.iload 5, 152, 5, 0, .null, .int, 0), (.imul, 153, 0, 0, .null, .int, 0), (.iload 6, 155, 6, 0, .null, .int, 0), (.iadd, 156, 0, 0, .null, .int, 0), (.istore 4, 158, 4, 0, .null, .int, 0)]
def k_183_158 : List Rw := [(.iinc 6 1, 161, 6, 0, .int (1), .int, 0), (.goto (-93), 164, 68, 0, .null, .int, 0)]
def k_183_164 : List Rw := [(.iinc 5 1, 167, 5, 0, .int (1), .int, 0), (.goto (-114), 170, 53, 0, .null, .int, 0)]
def k_183_170 : List Rw := [(.iload 4, 172, 4, 0, .null, .int, 0), (.ireturn, 173, 0, 0, .null, .int, 0)]
def bl_183 : List (Nat × List Rw × Nat) := [(0, k_183_0, 53), (53, k_183_53, 68), (68, k_183_68, 99999), (98, k_183_98, 158), (158, k_183_158, 99999), (164, k_183_164, 99999), (170, k_183_170, 99999)]
set_option maxRecDepth 1000000 in
theorem ok_183 : bl_183.all (fun b => rowsB e_183 b.1 b.2.1 b.2.2) = true := by decide +kernel
-- FishGrader.bestRule (I)I
abbrev e_184 : MIt := (⟨"FishGrader", "bestRule", "(I)I"⟩, prog_1_method_48_code, 12, (some .int), 6, 0, 7, 1)
def k_184_0 : List Rw := [(.aload_n 0, 1, 0, 0, .null, .int, 0), (.invokevirtual 177, 4, 236, 1, .ref 7, .int, 235), (.iload_n 1, 5, 1, 0, .null, .int, 0), (.iconst 1, 6, 0, 0, .int (1), .int, 0), (.bipush 100, 8, 0, 0, .int (100), .int, 0), (.invokestatic 210, 11, 251, 3, .null, .int, 250), (.iconst 0, 12, 0, 0, .int (0), .int, 0), (.istore_n 2, 13, 2, 0, .null, .int, 0), (.lconst 0, 14, 0, 0, .long 0, .int, 0), (.lstore_n 3, 15, 3, 0, .null, .int, 0), (.lconst 0, 16, 0, 0, .long 0, .int, 0), (.lstore 5, 18, 5, 0, .null, .int, 0), (.iconst 0, 19, 0, 0, .int (0), .int, 0), (.istore 7, 21, 7, 0, .null, .int, 0)]
def k_184_21 : List Rw := [(.iload 7, 23, 7, 0, .null, .int, 0), (.iconst 3, 24, 0, 0, .int (3), .int, 0), (.if_icmp .ge 85, 27, 109, 0, .null, .int, 0), (.aload_n 0, 28, 0, 0, .null, .int, 0), (.invokevirtual 250, 31, 272, 1, .ref 7, .int, 271), (.aload_n 0, 32, 0, 0, .null, .int, 0), (.getfield 44, 35, 7, 8, .null, (.object "FishGrader$State"), 8), (.iload 7, 37, 7, 0, .null, .int, 0), (.putfield 191, 40, 5, 1, .null, .int, 36), (.aload_n 0, 41, 0, 0, .null, .int, 0), (.getfield 44, 44, 7, 8, .null, (.object "FishGrader$State"), 8), (.aload_n 0, 45, 0, 0, .null, .int, 0), (.getfield 30, 48, 7, 5, .null, (.object "FishGrader$Setup"), 5), (.iload_n 1, 49, 1, 0, .null, .int, 0), (.invokevirtual 253, 52, 268, 3, .ref 5, .int, 267), (.aload_n 0, 53, 0, 0, .null, .int, 0), (.invokevirtual 261, 56, 273, 1, .ref 7, .int, 272), (.i2l, 57, 0, 0, .null, .int, 0), (.lstore 8, 59, 8, 0, .null, .int, 0), (.aload_n 0, 60, 0, 0, .null, .int, 0), (.invokevirtual 257, 63, 274, 1, .ref 7, .int, 273), (.i2l, 64, 0, 0, .null, .int, 0), (.lstore 10, 66, 10, 0, .null, .int, 0), (.lload 10, 68, 10, 0, .null, .int, 0), (.lconst 0, 69, 0, 0, .long 0, .int, 0), (.lcmp, 70, 0, 0, .null, .int, 0), (.ifCond .le 33, 73, 103, 0, .null, .int, 0), (.lload 5, 75, 5, 0, .null, .int, 0), (.lconst 0, 76, 0, 0, .long 0, .int, 0), (.lcmp, 77, 0, 0, .null, .int, 0), (.ifCond .eq 16, 80, 93, 0, .null, .int, 0), (.lload 8, 82, 8, 0, .null, .int, 0), (.lload 5, 84, 5, 0, .null, .int, 0), (.lmul, 85, 0, 0, .null, .int, 0), (.lload_n 3, 86, 3, 0, .null, .int, 0), (.lload 10, 88, 10, 0, .null, .int, 0), (.lmul, 89, 0, 0, .null, .int, 0), (.lcmp, 90, 0, 0, .null, .int, 0), (.ifCond .ge 13, 93, 103, 0, .null, .int, 0)]
def k_184_93 : List Rw := [(.iload 7, 95, 7, 0, .null, .int, 0), (.istore_n 2, 96, 2, 0, .null, .int, 0), (.lload 8, 98, 8, 0, .null, .int, 0), (.lstore_n 3, 99, 3, 0, .null, .int, 0), (.lload 10, 101, 10, 0, .null, .int, 0), (.lstore 5, 103, 5, 0, .null, .int, 0)]
def k_184_103 : List Rw := [(.iinc 7 1, 106, 7, 0, .int (1), .int, 0), (.goto (-85), 109, 21, 0, .null, .int, 0)]
def k_184_109 : List Rw := [(.iload_n 2, 110, 2, 0, .null, .int, 0), (.ireturn, 111, 0, 0, .null, .int, 0)]
def bl_184 : List (Nat × List Rw × Nat) := [(0, k_184_0, 21), (21, k_184_21, 93), (93, k_184_93, 103), (103, k_184_103, 99999), (109, k_184_109, 99999)]
set_option maxRecDepth 1000000 in
theorem ok_184 : bl_184.all (fun b => rowsB e_184 b.1 b.2.1 b.2.2) = true := by decide +kernel
-- FishGrader.firstLate (I)I
abbrev e_185 : MIt := (⟨"FishGrader", "firstLate", "(I)I"⟩, prog_1_method_47_code, 4, (some .int), 5, 0, 7, 1)
def k_185_0 : List Rw := [(.aload_n 0, 1, 0, 0, .null, .int, 0), (.invokevirtual 177, 4, 236, 1, .ref 7, .int, 235), (.iload_n 1, 5, 1, 0, .null, .int, 0), (.iconst 1, 6, 0, 0, .int (1), .int, 0), (.bipush 100, 8, 0, 0, .int (100), .int, 0), (.invokestatic 210, 11, 251, 3, .null, .int, 250), (.aload_n 0, 12, 0, 0, .null, .int, 0), (.getfield 40, 15, 7, 7, .null, (.object "FishGrader$State"), 7), (.aload_n 0, 16, 0, 0, .null, .int, 0), (.getfield 30, 19, 7, 5, .null, (.object "FishGrader$Setup"), 5), (.invokevirtual 218, 22, 275, 2, .ref 5, .int, 274), (.istore_n 2, 23, 2, 0, .null, .int, 0), (.aload_n 0, 24, 0, 0, .null, .int, 0), (.invokevirtual 250, 27, 272, 1, .ref 7, .int, 271), (.iconst 1, 28, 0, 0, .int (1), .int, 0), (.istore_n 3, 29, 3, 0, .null, .int, 0)]
def k_185_29 : List Rw := [(.iload_n 3, 30, 3, 0, .null, .int, 0), (.iload_n 1, 31, 1, 0, .null, .int, 0), (.if_icmp .gt 37, 34, 68, 0, .null, .int, 0), (.aload_n 0, 35, 0, 0, .null, .int, 0), (.getfield 44, 38, 7, 8, .null, (.object "FishGrader$State"), 8), (.aload_n 0, 39, 0, 0, .null, .int, 0), (.getfield 30, 42, 7, 5, .null, (.object "FishGrader$Setup"), 5), (.invokevirtual 264, 45, 276, 2, .ref 5, .int, 275), (.aload_n 0, 46, 0, 0, .null, .int, 0), (.getfield 44, 49, 7, 8, .null, (.object "FishGrader$State"), 8), (.aload_n 0, 50, 0, 0, .null, .int, 0), (.getfield 30, 53, 7, 5, .null, (.object "FishGrader$Setup"), 5), (.invokevirtual 218, 56, 275, 2, .ref 5, .int, 274), (.iload_n 2, 57, 2, 0, .null, .int, 0), (.if_icmp .le 5, 60, 62, 0, .null, .int, 0), (.iload_n 3, 61, 3, 0, .null, .int, 0), (.ireturn, 62, 0, 0, .null, .int, 0)]
def k_185_62 : List Rw := [(.iinc 3 1, 65, 3, 0, .int (1), .int, 0), (.goto (-36), 68, 29, 0, .null, .int, 0)]
def k_185_68 : List Rw := [(.iconst (-1), 69, 0, 0, .int (-1), .int, 0), (.ireturn, 70, 0, 0, .null, .int, 0)]
def bl_185 : List (Nat × List Rw × Nat) := [(0, k_185_0, 29), (29, k_185_29, 99999), (62, k_185_62, 99999), (68, k_185_68, 99999)]
set_option maxRecDepth 1000000 in
theorem ok_185 : bl_185.all (fun b => rowsB e_185 b.1 b.2.1 b.2.2) = true := by decide +kernel
-- FishGraderModel.lateOf ([I)I
abbrev e_186 : MIt := (⟨"FishGraderModel", "lateOf", "([I)I"⟩, prog_11_method_79_code, 3, (some .int), 1, 1, 8, 1)
def k_186_0 : List Rw := [(.iconst 0, 1, 0, 0, .int (0), .int, 0), (.istore_n 1, 2, 1, 0, .null, .int, 0), (.iconst 0, 3, 0, 0, .int (0), .int, 0), (.istore_n 2, 4, 2, 0, .null, .int, 0)]
def k_186_4 : List Rw := [(.iload_n 2, 5, 2, 0, .null, .int, 0), (.aload_n 0, 6, 0, 0, .null, .int, 0), (.bipush 8, 8, 0, 0, .int (8), .int, 0), (.iaload, 9, 0, 0, .null, .int, 0), (.if_icmp .ge 25, 12, 34, 0, .null, .int, 0), (.iload_n 1, 13, 1, 0, .null, .int, 0), (.aload_n 0, 14, 0, 0, .null, .int, 0), (.iload_n 2, 15, 2, 0, .null, .int, 0), (.invokestatic 305, 18, 243, 2, .null, .int, 242), (.ifCond .eq 7, 21, 25, 0, .null, .int, 0), (.iconst 1, 22, 0, 0, .int (1), .int, 0), (.goto 4, 25, 26, 0, .null, .int, 0)]
def k_186_25 : List Rw := [(.iconst 0, 26, 0, 0, .int (0), .int, 0)]
def k_186_26 : List Rw := [(.iadd, 27, 0, 0, .null, .int, 0), (.istore_n 1, 28, 1, 0, .null, .int, 0), (.iinc 2 1, 31, 2, 0, .int (1), .int, 0), (.goto (-27), 34, 4, 0, .null, .int, 0)]
def k_186_34 : List Rw := [(.iload_n 1, 35, 1, 0, .null, .int, 0), (.ireturn, 36, 0, 0, .null, .int, 0)]
def bl_186 : List (Nat × List Rw × Nat) := [(0, k_186_0, 4), (4, k_186_4, 99999), (25, k_186_25, 26), (26, k_186_26, 99999), (34, k_186_34, 99999)]
set_option maxRecDepth 1000000 in
theorem ok_186 : bl_186.all (fun b => rowsB e_186 b.1 b.2.1 b.2.2) = true := by decide +kernel
-- FishGraderModel.tick ([I)V
abbrev e_187 : MIt := (⟨"FishGraderModel", "tick", "([I)V"⟩, prog_11_method_44_code, 2, none, 4, 0, 8, 1)
def k_187_0 : List Rw := [(.aload_n 1, 1, 1, 0, .null, .int, 0), (.iconst 0, 2, 0, 0, .int (0), .int, 0), (.dup2, 3, 0, 0, .null, .int, 0), (.iaload, 4, 0, 0, .null, .int, 0), (.iconst 1, 5, 0, 0, .int (1), .int, 0), (.iadd, 6, 0, 0, .null, .int, 0), (.iastore, 7, 0, 0, .null, .int, 0), (.aload_n 1, 8, 1, 0, .null, .int, 0), (.iconst 3, 9, 0, 0, .int (3), .int, 0), (.dup2, 10, 0, 0, .null, .int, 0), (.iaload, 11, 0, 0, .null, .int, 0), (.aload_n 1, 12, 1, 0, .null, .int, 0), (.iconst 3, 13, 0, 0, .int (3), .int, 0), (.iaload, 14, 0, 0, .null, .int, 0), (.aload_n 0, 15, 0, 0, .null, .int, 0), (.getfield 17, 18, 8, 11, .null, (.array .int), 17), (.bipush 25, 20, 0, 0, .int (25), .int, 0), (.iaload, 21, 0, 0, .null, .int, 0), (.imul, 22, 0, 0, .null, .int, 0), (.bipush 99, 24, 0, 0, .int (99), .int, 0), (.iadd, 25, 0, 0, .null, .int, 0), (.bipush 100, 27, 0, 0, .int (100), .int, 0), (.idiv, 28, 0, 0, .null, .int, 0), (.isub, 29, 0, 0, .null, .int, 0), (.iastore, 30, 0, 0, .null, .int, 0), (.aload_n 1, 31, 1, 0, .null, .int, 0), (.iconst 3, 32, 0, 0, .int (3), .int, 0), (.aload_n 0, 33, 0, 0, .null, .int, 0), (.getfield 17, 36, 8, 11, .null, (.array .int), 17), (.iconst 5, 37, 0, 0, .int (5), .int, 0), (.iaload, 38, 0, 0, .null, .int, 0), (.aload_n 1, 39, 1, 0, .null, .int, 0), (.iconst 3, 40, 0, 0, .int (3), .int, 0), (.iaload, 41, 0, 0, .null, .int, 0), (.aload_n 0, 42, 0, 0, .null, .int, 0), (.getfield 17, 45, 8, 11, .null, (.array .int), 17), (.iconst 4, 46, 0, 0, .int (4), .int, 0), (.iaload, 47, 0, 0, .null, .int, 0), (.iadd, 48, 0, 0, .null, .int, 0), (.invokestatic 263, 51, 0, 1, .int 1, .int, 2), (.iastore, 52, 0, 0, .null, .int, 0), (.aload_n 0, 53, 0, 0, .null, .int, 0), (.aload_n 1, 54, 1, 0, .null, .int, 0), (.invokevirtual 265, 57, 277, 2, .ref 8, .int, 276), (.aload_n 0, 58, 0, 0, .null, .int, 0), (.aload_n 1, 59, 1, 0, .null, .int, 0), (.iconst 0, 60, 0, 0, .int (0), .int, 0), (.iaload, 61, 0, 0, .null, .int, 0), (.invokevirtual 269, 64, 204, 2, .ref 8, .int, 203), (.ifCond .ne 8, 67, 72, 0, .null, .int, 0), (.aload_n 0, 68, 0, 0, .null, .int, 0), (.aload_n 1, 69, 1, 0, .null, .int, 0), (.invokevirtual 273, 72, 278, 2, .ref 8, .int, 277)]
def k_187_72 : List Rw := [(.return_, 73, 0, 0, .null, .int, 0)]
def bl_187 : List (Nat × List Rw × Nat) := [(0, k_187_0, 72), (72, k_187_72, 99999)]
set_option maxRecDepth 1000000 in
theorem ok_187 : bl_187.all (fun b => rowsB e_187 b.1 b.2.1 b.2.2) = true := by decide +kernel
-- FishGrader.firstClosed (II)I
abbrev e_188 : MIt := (⟨"FishGrader", "firstClosed", "(II)I"⟩, prog_1_method_46_code, 5, (some .int), 5, 0, 7, 2)
def k_188_0 : List Rw := [(.aload_n 0, 1, 0, 0, .null, .int, 0), (.iload_n 1, 2, 1, 0, .null, .int, 0), (.invokevirtual 126, 5, 250, 2, .ref 7, .int, 249), (.iload_n 2, 6, 2, 0, .null, .int, 0), (.iconst 1, 7, 0, 0, .int (1), .int, 0), (.bipush 100, 9, 0, 0, .int (100), .int, 0), (.invokestatic 210, 12, 251, 3, .null, .int, 250), (.aload_n 0, 13, 0, 0, .null, .int, 0), (.getfield 40, 16, 7, 7, .null, (.object "FishGrader$State"), 7), (.getfield 156, 19, 5, 13, .null, (.object "FishGrader$Boxes"), 38), (.iload_n 1, 20, 1, 0, .null, .int, 0), (.invokevirtual 244, 23, 279, 2, .ref 0, .int, 278), (.istore_n 3, 24, 3, 0, .null, .int, 0), (.aload_n 0, 25, 0, 0, .null, .int, 0), (.invokevirtual 250, 28, 272, 1, .ref 7, .int, 271), (.iconst 1, 29, 0, 0, .int (1), .int, 0), (.istore 4, 31, 4, 0, .null, .int, 0)]
def k_188_31 : List Rw := [(.iload 4, 33, 4, 0, .null, .int, 0), (.iload_n 2, 34, 2, 0, .null, .int, 0), (.if_icmp .gt 38, 37, 72, 0, .null, .int, 0), (.aload_n 0, 38, 0, 0, .null, .int, 0), (.getfield 44, 41, 7, 8, .null, (.object "FishGrader$State"), 8), (.aload_n 0, 42, 0, 0, .null, .int, 0), (.getfield 30, 45, 7, 5, .null, (.object "FishGrader$Setup"), 5), (.invokevirtual 264, 48, 276, 2, .ref 5, .int, 275), (.aload_n 0, 49, 0, 0, .null, .int, 0), (.getfield 44, 52, 7, 8, .null, (.object "FishGrader$State"), 8), (.getfield 156, 55, 5, 13, .null, (.object "FishGrader$Boxes"), 38), (.iload_n 1, 56, 1, 0, .null, .int, 0), (.invokevirtual 244, 59, 279, 2, .ref 0, .int, 278), (.iload_n 3, 60, 3, 0, .null, .int, 0), (.if_icmp .le 6, 63, 66, 0, .null, .int, 0), (.iload 4, 65, 4, 0, .null, .int, 0), (.ireturn, 66, 0, 0, .null, .int, 0)]
def k_188_66 : List Rw := [(.iinc 4 1, 69, 4, 0, .int (1), .int, 0), (.goto (-38), 72, 31, 0, .null, .int, 0)]
def k_188_72 : List Rw := [(.iconst (-1), 73, 0, 0, .int (-1), .int, 0), (.ireturn, 74, 0, 0, .null, .int, 0)]
def bl_188 : List (Nat × List Rw × Nat) := [(0, k_188_0, 31), (31, k_188_31, 99999), (66, k_188_66, 99999), (72, k_188_72, 99999)]
set_option maxRecDepth 1000000 in
theorem ok_188 : bl_188.all (fun b => rowsB e_188 b.1 b.2.1 b.2.2) = true := by decide +kernel
-- FishGrader.giveawayIn (I)I
abbrev e_189 : MIt := (⟨"FishGrader", "giveawayIn", "(I)I"⟩, prog_1_method_45_code, 2, (some .int), 6, 0, 7, 1)
def k_189_0 : List Rw := [(.aload_n 0, 1, 0, 0, .null, .int, 0), (.invokevirtual 177, 4, 236, 1, .ref 7, .int, 235), (.iload_n 1, 5, 1, 0, .null, .int, 0), (.iconst 1, 6, 0, 0, .int (1), .int, 0), (.bipush 100, 8, 0, 0, .int (100), .int, 0), (.invokestatic 210, 11, 251, 3, .null, .int, 250), (.aload_n 0, 12, 0, 0, .null, .int, 0), (.invokevirtual 250, 15, 272, 1, .ref 7, .int, 271), (.aload_n 0, 16, 0, 0, .null, .int, 0), (.getfield 44, 19, 7, 8, .null, (.object "FishGrader$State"), 8), (.aload_n 0, 20, 0, 0, .null, .int, 0), (.getfield 30, 23, 7, 5, .null, (.object "FishGrader$Setup"), 5), (.iload_n 1, 24, 1, 0, .null, .int, 0), (.invokevirtual 253, 27, 268, 3, .ref 5, .int, 267), (.aload_n 0, 28, 0, 0, .null, .int, 0), (.invokevirtual 261, 31, 273, 1, .ref 7, .int, 272), (.ireturn, 32, 0, 0, .null, .int, 0)]
def bl_189 : List (Nat × List Rw × Nat) := [(0, k_189_0, 99999)]
set_option maxRecDepth 1000000 in
theorem ok_189 : bl_189.all (fun b => rowsB e_189 b.1 b.2.1 b.2.2) = true := by decide +kernel
-- FishGrader.closedIn (I)I
abbrev e_190 : MIt := (⟨"FishGrader", "closedIn", "(I)I"⟩, prog_1_method_44_code, 2, (some .int), 6, 0, 7, 1)
def k_190_0 : List Rw := [(.aload_n 0, 1, 0, 0, .null, .int, 0), (.invokevirtual 177, 4, 236, 1, .ref 7, .int, 235), (.iload_n 1, 5, 1, 0, .null, .int, 0), (.iconst 1, 6, 0, 0, .int (1), .int, 0), (.bipush 100, 8, 0, 0, .int (100), .int, 0), (.invokestatic 210, 11, 251, 3, .null, .int, 250), (.aload_n 0, 12, 0, 0, .null, .int, 0), (.invokevirtual 250, 15, 272, 1, .ref 7, .int, 271), (.aload_n 0, 16, 0, 0, .null, .int, 0), (.getfield 44, 19, 7, 8, .null, (.object "FishGrader$State"), 8), (.aload_n 0, 20, 0, 0, .null, .int, 0), (.getfield 30, 23, 7, 5, .null, (.object "FishGrader$Setup"), 5), (.iload_n 1, 24, 1, 0, .null, .int, 0), (.invokevirtual 253, 27, 268, 3, .ref 5, .int, 267), (.aload_n 0, 28, 0, 0, .null, .int, 0), (.invokevirtual 257, 31, 274, 1, .ref 7, .int, 273), (.ireturn, 32, 0, 0, .null, .int, 0)]
def bl_190 : List (Nat × List Rw × Nat) := [(0, k_190_0, 99999)]
set_option maxRecDepth 1000000 in
theorem ok_190 : bl_190.all (fun b => rowsB e_190 b.1 b.2.1 b.2.2) = true := by decide +kernel
-- FishGrader.meanGiveaway (IZ)I
abbrev e_191 : MIt := (⟨"FishGrader", "meanGiveaway", "(IZ)I"⟩, prog_1_method_42_code, 6, (some .int), 2, 0, 7, 2)
def k_191_0 : List Rw := [(.aload_n 0, 1, 0, 0, .null, .int, 0), (.iload_n 1, 2, 1, 0, .null, .int, 0), (.invokevirtual 126, 5, 250, 2, .ref 7, .int, 249), (.aload_n 0, 6, 0, 0, .null, .int, 0), (.getfield 40, 9, 7, 7, .null, (.object "FishGrader$State"), 7), (.getfield 156, 12, 5, 13, .null, (.object "FishGrader$Boxes"), 38), (.iload_n 1, 13, 1, 0, .null, .int, 0), (.invokevirtual 237, 16, 280, 2, .ref 0, .int, 279), (.istore_n 3, 17, 3, 0, .null, .int, 0), (.aload_n 0, 18, 0, 0, .null, .int, 0), (.getfield 40, 21, 7, 7, .null, (.object "FishGrader$State"), 7), (.getfield 156, 24, 5, 13, .null, (.object "FishGrader$Boxes"), 38), (.iload_n 1, 25, 1, 0, .null, .int, 0), (.invokevirtual 244, 28, 279, 2, .ref 0, .int, 278), (.istore 4, 30, 4, 0, .null, .int, 0), (.iload_n 3, 31, 3, 0, .null, .int, 0), (.ifCond .eq 8, 34, 39, 0, .null, .int, 0), (.iload 4, 36, 4, 0, .null, .int, 0), (.ifCond .ne 13, 39, 49, 0, .null, .int, 0)]
def k_191_39 : List Rw := [(.iload_n 2, 40, 2, 0, .null, .int, 0), (.ifCond .eq 7, 43, 47, 0, .null, .int, 0), (.iconst 1, 44, 0, 0, .int (1), .int, 0), (.goto 4, 47, 48, 0, .null, .int, 0)]
def k_191_47 : List Rw := [(.iconst 0, 48, 0, 0, .int (0), .int, 0)]
def k_191_48 : List Rw := [(.ireturn, 49, 0, 0, .null, .int, 0)]
def k_191_49 : List Rw := [(.iload_n 3, 50, 3, 0, .null, .int, 0), (.iload 4, 52, 4, 0, .null, .int, 0), (.invokestatic 247, 55, 281, 2, .null, .int, 280), (.istore 5, 57, 5, 0, .null, .int, 0), (.iload_n 2, 58, 2, 0, .null, .int, 0), (.ifCond .eq 11, 61, 69, 0, .null, .int, 0), (.iload 4, 63, 4, 0, .null, .int, 0), (.iload 5, 65, 5, 0, .null, .int, 0), (.idiv, 66, 0, 0, .null, .int, 0), (.goto 7, 69, 73, 0, .null, .int, 0)]
def k_191_69 : List Rw := [(.iload_n 3, 70, 3, 0, .null, .int, 0), (.iload 5, 72, 5, 0, .null, .int, 0), (.idiv, 73, 0, 0, .null, .int, 0)]
def k_191_73 : List Rw := [(.ireturn, 74, 0, 0, .null, .int, 0)]
def bl_191 : List (Nat × List Rw × Nat) := [(0, k_191_0, 39), (39, k_191_39, 99999), (47, k_191_47, 48), (48, k_191_48, 99999), (49, k_191_49, 99999), (69, k_191_69, 73), (73, k_191_73, 99999)]
set_option maxRecDepth 1000000 in
theorem ok_191 : bl_191.all (fun b => rowsB e_191 b.1 b.2.1 b.2.2) = true := by decide +kernel
-- FishGraderModel.common (II)I
abbrev e_192 : MIt := (⟨"FishGraderModel", "common", "(II)I"⟩, prog_11_method_90_code, 5, (some .int), 0, 1, 8, 2)
def k_192_0 : List Rw := [(.iload_n 0, 1, 0, 0, .null, .int, 0), (.istore_n 2, 2, 2, 0, .null, .int, 0), (.iload_n 1, 3, 1, 0, .null, .int, 0), (.istore_n 3, 4, 3, 0, .null, .int, 0)]
def k_192_4 : List Rw := [(.iload_n 3, 5, 3, 0, .null, .int, 0), (.ifCond .eq 16, 8, 21, 0, .null, .int, 0), (.iload_n 2, 9, 2, 0, .null, .int, 0), (.iload_n 3, 10, 3, 0, .null, .int, 0), (.irem, 11, 0, 0, .null, .int, 0), (.istore 4, 13, 4, 0, .null, .int, 0), (.iload_n 3, 14, 3, 0, .null, .int, 0), (.istore_n 2, 15, 2, 0, .null, .int, 0), (.iload 4, 17, 4, 0, .null, .int, 0), (.istore_n 3, 18, 3, 0, .null, .int, 0), (.goto (-14), 21, 4, 0, .null, .int, 0)]
def k_192_21 : List Rw := [(.iload_n 2, 22, 2, 0, .null, .int, 0), (.ireturn, 23, 0, 0, .null, .int, 0)]
def bl_192 : List (Nat × List Rw × Nat) := [(0, k_192_0, 4), (4, k_192_4, 99999), (21, k_192_21, 99999)]
set_option maxRecDepth 1000000 in
theorem ok_192 : bl_192.all (fun b => rowsB e_192 b.1 b.2.1 b.2.2) = true := by decide +kernel
-- FishGrader.earnings (I)I
abbrev e_193 : MIt := (⟨"FishGrader", "earnings", "(I)I"⟩, prog_1_method_41_code, 2, (some .int), 2, 0, 7, 1)
def k_193_0 : List Rw := [(.aload_n 0, 1, 0, 0, .null, .int, 0), (.iload_n 1, 2, 1, 0, .null, .int, 0), (.invokevirtual 126, 5, 250, 2, .ref 7, .int, 249), (.aload_n 0, 6, 0, 0, .null, .int, 0), (.getfield 40, 9, 7, 7, .null, (.object "FishGrader$State"), 7), (.aload_n 0, 10, 0, 0, .null, .int, 0), (.getfield 30, 13, 7, 5, .null, (.object "FishGrader$Setup"), 5), (.iload_n 1, 14, 1, 0, .null, .int, 0), (.invokevirtual 240, 17, 282, 3, .ref 5, .int, 281), (.ireturn, 18, 0, 0, .null, .int, 0)]
def bl_193 : List (Nat × List Rw × Nat) := [(0, k_193_0, 99999)]
set_option maxRecDepth 1000000 in
theorem ok_193 : bl_193.all (fun b => rowsB e_193 b.1 b.2.1 b.2.2) = true := by decide +kernel
-- FishGrader.totalGiveaway (I)I
abbrev e_194 : MIt := (⟨"FishGrader", "totalGiveaway", "(I)I"⟩, prog_1_method_40_code, 2, (some .int), 2, 0, 7, 1)
def k_194_0 : List Rw := [(.aload_n 0, 1, 0, 0, .null, .int, 0), (.iload_n 1, 2, 1, 0, .null, .int, 0), (.invokevirtual 126, 5, 250, 2, .ref 7, .int, 249), (.aload_n 0, 6, 0, 0, .null, .int, 0), (.getfield 40, 9, 7, 7, .null, (.object "FishGrader$State"), 7), (.getfield 156, 12, 5, 13, .null, (.object "FishGrader$Boxes"), 38), (.iload_n 1, 13, 1, 0, .null, .int, 0), (.invokevirtual 237, 16, 280, 2, .ref 0, .int, 279), (.ireturn, 17, 0, 0, .null, .int, 0)]
def bl_194 : List (Nat × List Rw × Nat) := [(0, k_194_0, 99999)]
set_option maxRecDepth 1000000 in
theorem ok_194 : bl_194.all (fun b => rowsB e_194 b.1 b.2.1 b.2.2) = true := by decide +kernel
-- FishGrader.target (I)I
abbrev e_195 : MIt := (⟨"FishGrader", "target", "(I)I"⟩, prog_1_method_39_code, 2, (some .int), 2, 0, 7, 1)
def k_195_0 : List Rw := [(.aload_n 0, 1, 0, 0, .null, .int, 0), (.iload_n 1, 2, 1, 0, .null, .int, 0), (.invokevirtual 126, 5, 250, 2, .ref 7, .int, 249), (.aload_n 0, 6, 0, 0, .null, .int, 0), (.getfield 40, 9, 7, 7, .null, (.object "FishGrader$State"), 7), (.getfield 234, 12, 5, 7, .null, (.array .int), 82), (.iload_n 1, 13, 1, 0, .null, .int, 0), (.iaload, 14, 0, 0, .null, .int, 0), (.ireturn, 15, 0, 0, .null, .int, 0)]
def bl_195 : List (Nat × List Rw × Nat) := [(0, k_195_0, 99999)]
set_option maxRecDepth 1000000 in
theorem ok_195 : bl_195.all (fun b => rowsB e_195 b.1 b.2.1 b.2.2) = true := by decide +kernel
-- FishGraderModel.ofKind (II)I
abbrev e_196 : MIt := (⟨"FishGraderModel", "ofKind", "(II)I"⟩, prog_11_method_82_code, 3, (some .int), 2, 0, 8, 2)
def k_196_0 : List Rw := [(.aload_n 0, 1, 0, 0, .null, .int, 0), (.aload_n 0, 2, 0, 0, .null, .int, 0), (.iload_n 1, 3, 1, 0, .null, .int, 0), (.invokevirtual 282, 6, 154, 2, .ref 8, .int, 153), (.invokevirtual 288, 9, 138, 2, .ref 8, .int, 137), (.ifCond .eq 14, 12, 23, 0, .null, .int, 0), (.aload_n 0, 13, 0, 0, .null, .int, 0), (.getfield 30, 16, 8, 15, .null, (.array .int), 21), (.iload_n 2, 17, 2, 0, .null, .int, 0), (.iload_n 1, 18, 1, 0, .null, .int, 0), (.iadd, 19, 0, 0, .null, .int, 0), (.iaload, 20, 0, 0, .null, .int, 0), (.goto 4, 23, 24, 0, .null, .int, 0)]
def k_196_23 : List Rw := [(.iconst 0, 24, 0, 0, .int (0), .int, 0)]
def k_196_24 : List Rw := [(.ireturn, 25, 0, 0, .null, .int, 0)]
def bl_196 : List (Nat × List Rw × Nat) := [(0, k_196_0, 99999), (23, k_196_23, 24), (24, k_196_24, 99999)]
set_option maxRecDepth 1000000 in
theorem ok_196 : bl_196.all (fun b => rowsB e_196 b.1 b.2.1 b.2.2) = true := by decide +kernel
-- FishGrader.quota (I)I
abbrev e_197 : MIt := (⟨"FishGrader", "quota", "(I)I"⟩, prog_1_method_38_code, 2, (some .int), 2, 0, 7, 1)
def k_197_0 : List Rw := [(.aload_n 0, 1, 0, 0, .null, .int, 0), (.iload_n 1, 2, 1, 0, .null, .int, 0), (.invokevirtual 126, 5, 250, 2, .ref 7, .int, 249), (.aload_n 0, 6, 0, 0, .null, .int, 0), (.getfield 40, 9, 7, 7, .null, (.object "FishGrader$State"), 7), (.getfield 231, 12, 5, 8, .null, (.array .int), 81), (.iload_n 1, 13, 1, 0, .null, .int, 0), (.iaload, 14, 0, 0, .null, .int, 0), (.ireturn, 15, 0, 0, .null, .int, 0)]
def bl_197 : List (Nat × List Rw × Nat) := [(0, k_197_0, 99999)]
set_option maxRecDepth 1000000 in
theorem ok_197 : bl_197.all (fun b => rowsB e_197 b.1 b.2.1 b.2.2) = true := by decide +kernel
-- FishGrader.discarded (I)I
abbrev e_198 : MIt := (⟨"FishGrader", "discarded", "(I)I"⟩, prog_1_method_37_code, 2, (some .int), 2, 0, 7, 1)
def k_198_0 : List Rw := [(.aload_n 0, 1, 0, 0, .null, .int, 0), (.iload_n 1, 2, 1, 0, .null, .int, 0), (.invokevirtual 126, 5, 250, 2, .ref 7, .int, 249), (.aload_n 0, 6, 0, 0, .null, .int, 0), (.getfield 40, 9, 7, 7, .null, (.object "FishGrader$State"), 7), (.getfield 228, 12, 5, 10, .null, (.array .int), 88), (.iload_n 1, 13, 1, 0, .null, .int, 0), (.iaload, 14, 0, 0, .null, .int, 0), (.ireturn, 15, 0, 0, .null, .int, 0)]
def bl_198 : List (Nat × List Rw × Nat) := [(0, k_198_0, 99999)]
set_option maxRecDepth 1000000 in
theorem ok_198 : bl_198.all (fun b => rowsB e_198 b.1 b.2.1 b.2.2) = true := by decide +kernel
-- FishGrader.landed (I)I
abbrev e_199 : MIt := (⟨"FishGrader", "landed", "(I)I"⟩, prog_1_method_36_code, 2, (some .int), 2, 0, 7, 1)
def k_199_0 : List Rw := [(.aload_n 0, 1, 0, 0, .null, .int, 0), (.iload_n 1, 2, 1, 0, .null, .int, 0), (.invokevirtual 126, 5, 250, 2, .ref 7, .int, 249), (.aload_n 0, 6, 0, 0, .null, .int, 0), (.getfield 40, 9, 7, 7, .null, (.object "FishGrader$State"), 7), (.getfield 225, 12, 5, 9, .null, (.array .int), 89), (.iload_n 1, 13, 1, 0, .null, .int, 0), (.iaload, 14, 0, 0, .null, .int, 0), (.ireturn, 15, 0, 0, .null, .int, 0)]
def bl_199 : List (Nat × List Rw × Nat) := [(0, k_199_0, 99999)]
set_option maxRecDepth 1000000 in
theorem ok_199 : bl_199.all (fun b => rowsB e_199 b.1 b.2.1 b.2.2) = true := by decide +kernel
-- FishGrader$Items.countFate (I)I
abbrev e_200 : MIt := (⟨"FishGrader$Items", "countFate", "(I)I"⟩, prog_3_method_13_code, 4, (some .int), 0, 0, 1, 1)
def k_200_0 : List Rw := [(.iconst 0, 1, 0, 0, .int (0), .int, 0), (.istore_n 2, 2, 2, 0, .null, .int, 0), (.iconst 0, 3, 0, 0, .int (0), .int, 0), (.istore_n 3, 4, 3, 0, .null, .int, 0)]
def k_200_4 : List Rw := [(.iload_n 3, 5, 3, 0, .null, .int, 0), (.aload_n 0, 6, 0, 0, .null, .int, 0), (.getfield 9, 9, 1, 0, .null, .int, 90), (.if_icmp .ge 22, 12, 31, 0, .null, .int, 0), (.aload_n 0, 13, 0, 0, .null, .int, 0), (.getfield 25, 16, 1, 4, .null, (.array .int), 91), (.iload_n 3, 17, 3, 0, .null, .int, 0), (.iaload, 18, 0, 0, .null, .int, 0), (.iload_n 1, 19, 1, 0, .null, .int, 0), (.if_icmp .ne 6, 22, 25, 0, .null, .int, 0), (.iinc 2 1, 25, 2, 0, .int (1), .int, 0)]
def k_200_25 : List Rw := [(.iinc 3 1, 28, 3, 0, .int (1), .int, 0), (.goto (-24), 31, 4, 0, .null, .int, 0)]
def k_200_31 : List Rw := [(.iload_n 2, 32, 2, 0, .null, .int, 0), (.ireturn, 33, 0, 0, .null, .int, 0)]
def bl_200 : List (Nat × List Rw × Nat) := [(0, k_200_0, 4), (4, k_200_4, 25), (25, k_200_25, 99999), (31, k_200_31, 99999)]
set_option maxRecDepth 1000000 in
theorem ok_200 : bl_200.all (fun b => rowsB e_200 b.1 b.2.1 b.2.2) = true := by decide +kernel
-- FishGraderModel.told (I)I
abbrev e_201 : MIt := (⟨"FishGraderModel", "told", "(I)I"⟩, prog_11_method_46_code, 2, (some .int), 0, 0, 8, 1)
def k_201_0 : List Rw := [(.aload_n 0, 1, 0, 0, .null, .int, 0), (.iconst 0, 2, 0, 0, .int (0), .int, 0), (.putfield 51, 5, 8, 0, .null, .int, 29), (.aload_n 0, 6, 0, 0, .null, .int, 0), (.getfield 228, 9, 8, 21, .null, .boolean, 41), (.ifCond .eq 12, 12, 21, 0, .null, .int, 0), (.aload_n 0, 13, 0, 0, .null, .int, 0), (.getfield 30, 16, 8, 15, .null, (.array .int), 21), (.iload_n 1, 17, 1, 0, .null, .int, 0), (.iaload, 18, 0, 0, .null, .int, 0), (.goto 4, 21, 22, 0, .null, .int, 0)]
def k_201_21 : List Rw := [(.iconst 0, 22, 0, 0, .int (0), .int, 0)]
def k_201_22 : List Rw := [(.ireturn, 23, 0, 0, .null, .int, 0)]
def bl_201 : List (Nat × List Rw × Nat) := [(0, k_201_0, 99999), (21, k_201_21, 22), (22, k_201_22, 99999)]
set_option maxRecDepth 1000000 in
theorem ok_201 : bl_201.all (fun b => rowsB e_201 b.1 b.2.1 b.2.2) = true := by decide +kernel
-- FishGrader.late ()I
abbrev e_202 : MIt := (⟨"FishGrader", "late", "()I"⟩, prog_1_method_34_code, 1, (some .int), 2, 0, 7, 0)
def k_202_0 : List Rw := [(.aload_n 0, 1, 0, 0, .null, .int, 0), (.invokevirtual 177, 4, 236, 1, .ref 7, .int, 235), (.aload_n 0, 5, 0, 0, .null, .int, 0), (.getfield 40, 8, 7, 7, .null, (.object "FishGrader$State"), 7), (.aload_n 0, 9, 0, 0, .null, .int, 0), (.getfield 30, 12, 7, 5, .null, (.object "FishGrader$Setup"), 5), (.invokevirtual 218, 15, 275, 2, .ref 5, .int, 274), (.ireturn, 16, 0, 0, .null, .int, 0)]
def bl_202 : List (Nat × List Rw × Nat) := [(0, k_202_0, 99999)]
set_option maxRecDepth 1000000 in
theorem ok_202 : bl_202.all (fun b => rowsB e_202 b.1 b.2.1 b.2.2) = true := by decide +kernel
-- FishGrader.isStopped (I)Z
abbrev e_203 : MIt := (⟨"FishGrader", "isStopped", "(I)Z"⟩, prog_1_method_33_code, 2, (some .boolean), 1, 0, 7, 1)
def k_203_0 : List Rw := [(.aload_n 0, 1, 0, 0, .null, .int, 0), (.invokevirtual 177, 4, 236, 1, .ref 7, .int, 235), (.iload_n 1, 5, 1, 0, .null, .int, 0), (.iconst 1, 6, 0, 0, .int (1), .int, 0), (.ldc 209, 8, 0, 0, .int (2147483647), .int, 2), (.invokestatic 210, 11, 251, 3, .null, .int, 250), (.aload_n 0, 12, 0, 0, .null, .int, 0), (.getfield 30, 15, 7, 5, .null, (.object "FishGrader$Setup"), 5), (.iload_n 1, 16, 1, 0, .null, .int, 0), (.invokevirtual 214, 19, 283, 2, .ref 4, .int, 282), (.ireturn, 20, 0, 0, .null, .int, 0)]
def bl_203 : List (Nat × List Rw × Nat) := [(0, k_203_0, 99999)]
set_option maxRecDepth 1000000 in
theorem ok_203 : bl_203.all (fun b => rowsB e_203 b.1 b.2.1 b.2.2) = true := by decide +kernel
-- FishGraderModel.stopsAt (I)Z
abbrev e_204 : MIt := (⟨"FishGraderModel", "stopsAt", "(I)Z"⟩, prog_11_method_43_code, 3, (some .boolean), 1, 0, 8, 1)
def k_204_0 : List Rw := [(.iconst 0, 1, 0, 0, .int (0), .int, 0), (.istore_n 2, 2, 2, 0, .null, .int, 0)]
def k_204_2 : List Rw := [(.iload_n 2, 3, 2, 0, .null, .int, 0), (.aload_n 0, 4, 0, 0, .null, .int, 0), (.getfield 17, 7, 8, 11, .null, (.array .int), 17), (.bipush 16, 9, 0, 0, .int (16), .int, 0), (.iaload, 10, 0, 0, .null, .int, 0), (.if_icmp .ge 36, 13, 46, 0, .null, .int, 0), (.iload_n 1, 14, 1, 0, .null, .int, 0), (.aload_n 0, 15, 0, 0, .null, .int, 0), (.getfield 17, 18, 8, 11, .null, (.array .int), 17), (.bipush 17, 20, 0, 0, .int (17), .int, 0), (.iload_n 2, 21, 2, 0, .null, .int, 0), (.iadd, 22, 0, 0, .null, .int, 0), (.iaload, 23, 0, 0, .null, .int, 0), (.aload_n 0, 24, 0, 0, .null, .int, 0), (.getfield 17, 27, 8, 11, .null, (.array .int), 17), (.bipush 21, 29, 0, 0, .int (21), .int, 0), (.iload_n 2, 30, 2, 0, .null, .int, 0), (.iadd, 31, 0, 0, .null, .int, 0), (.iaload, 32, 0, 0, .null, .int, 0), (.invokestatic 84, 35, 136, 3, .null, .int, 135), (.ifCond .eq 5, 38, 40, 0, .null, .int, 0), (.iconst 1, 39, 0, 0, .int (1), .int, 0), (.ireturn, 40, 0, 0, .null, .int, 0)]
def k_204_40 : List Rw := [(.iinc 2 1, 43, 2, 0, .int (1), .int, 0), (.goto (-41), 46, 2, 0, .null, .int, 0)]
def k_204_46 : List Rw := [(.iconst 0, 47, 0, 0, .int (0), .int, 0), (.ireturn, 48, 0, 0, .null, .int, 0)]
def bl_204 : List (Nat × List Rw × Nat) := [(0, k_204_0, 2), (2, k_204_2, 99999), (40, k_204_40, 99999), (46, k_204_46, 99999)]
set_option maxRecDepth 1000000 in
theorem ok_204 : bl_204.all (fun b => rowsB e_204 b.1 b.2.1 b.2.2) = true := by decide +kernel
-- FishGrader.poolItem (I)I
abbrev e_205 : MIt := (⟨"FishGrader", "poolItem", "(I)I"⟩, prog_1_method_30_code, 2, (some .int), 2, 0, 7, 1)
def k_205_0 : List Rw := [(.aload_n 0, 1, 0, 0, .null, .int, 0), (.iload_n 1, 2, 1, 0, .null, .int, 0), (.invokevirtual 197, 5, 260, 2, .ref 7, .int, 259), (.aload_n 0, 6, 0, 0, .null, .int, 0), (.getfield 40, 9, 7, 7, .null, (.object "FishGrader$State"), 7), (.getfield 200, 12, 5, 6, .null, (.array .int), 85), (.iload_n 1, 13, 1, 0, .null, .int, 0), (.iaload, 14, 0, 0, .null, .int, 0), (.ireturn, 15, 0, 0, .null, .int, 0)]
def bl_205 : List (Nat × List Rw × Nat) := [(0, k_205_0, 99999)]
set_option maxRecDepth 1000000 in
theorem ok_205 : bl_205.all (fun b => rowsB e_205 b.1 b.2.1 b.2.2) = true := by decide +kernel
-- FishGrader.worstBox (I)I
abbrev e_206 : MIt := (⟨"FishGrader", "worstBox", "(I)I"⟩, prog_1_method_26_code, 2, (some .int), 3, 0, 7, 1)
def k_206_0 : List Rw := [(.aload_n 0, 1, 0, 0, .null, .int, 0), (.iload_n 1, 2, 1, 0, .null, .int, 0), (.invokevirtual 163, 5, 246, 2, .ref 7, .int, 245), (.aload_n 0, 6, 0, 0, .null, .int, 0), (.getfield 40, 9, 7, 7, .null, (.object "FishGrader$State"), 7), (.getfield 156, 12, 5, 13, .null, (.object "FishGrader$Boxes"), 38), (.iload_n 1, 13, 1, 0, .null, .int, 0), (.invokevirtual 185, 16, 284, 2, .ref 0, .int, 283), (.ireturn, 17, 0, 0, .null, .int, 0)]
def bl_206 : List (Nat × List Rw × Nat) := [(0, k_206_0, 99999)]
set_option maxRecDepth 1000000 in
theorem ok_206 : bl_206.all (fun b => rowsB e_206 b.1 b.2.1 b.2.2) = true := by decide +kernel
-- FishGrader.nextIced (I)I
abbrev e_207 : MIt := (⟨"FishGrader", "nextIced", "(I)I"⟩, prog_1_method_25_code, 2, (some .int), 1, 0, 7, 1)
def k_207_0 : List Rw := [(.aload_n 0, 1, 0, 0, .null, .int, 0), (.invokevirtual 177, 4, 236, 1, .ref 7, .int, 235), (.iload_n 1, 5, 1, 0, .null, .int, 0), (.ifCond .lt 28, 8, 33, 0, .null, .int, 0), (.iload_n 1, 9, 1, 0, .null, .int, 0), (.aload_n 0, 10, 0, 0, .null, .int, 0), (.getfield 40, 13, 7, 7, .null, (.object "FishGrader$State"), 7), (.getfield 156, 16, 5, 13, .null, (.object "FishGrader$Boxes"), 38), (.getfield 160, 19, 0, 0, .null, .int, 39), (.aload_n 0, 20, 0, 0, .null, .int, 0), (.getfield 40, 23, 7, 7, .null, (.object "FishGrader$State"), 7), (.getfield 156, 26, 5, 13, .null, (.object "FishGrader$Boxes"), 38), (.getfield 180, 29, 0, 1, .null, .int, 92), (.isub, 30, 0, 0, .null, .int, 0), (.if_icmp .lt 13, 33, 43, 0, .null, .int, 0)]
def k_207_33 : List Rw := [(.new 75, 36, 1, 0, .int 1, .int, 6)]
def k_207_43 : List Rw := [(.aload_n 0, 44, 0, 0, .null, .int, 0), (.getfield 40, 47, 7, 7, .null, (.object "FishGrader$State"), 7), (.getfield 156, 50, 5, 13, .null, (.object "FishGrader$Boxes"), 38), (.getfield 180, 53, 0, 1, .null, .int, 92), (.iload_n 1, 54, 1, 0, .null, .int, 0), (.iadd, 55, 0, 0, .null, .int, 0), (.ireturn, 56, 0, 0, .null, .int, 0)]
def bl_207 : List (Nat × List Rw × Nat) := [(0, k_207_0, 33), (33, k_207_33, 99999), (43, k_207_43, 99999)]
set_option maxRecDepth 1000000 in
theorem ok_207 : bl_207.all (fun b => rowsB e_207 b.1 b.2.1 b.2.2) = true := by decide +kernel
-- FishGraderModel.nextWaiting ([II)I
abbrev e_208 : MIt := (⟨"FishGraderModel", "nextWaiting", "([II)I"⟩, prog_11_method_34_code, 4, (some .int), 1, 1, 8, 2)
def k_208_0 : List Rw := [(.iconst (-1), 1, 0, 0, .int (-1), .int, 0), (.istore_n 2, 2, 2, 0, .null, .int, 0), (.iconst 0, 3, 0, 0, .int (0), .int, 0), (.istore_n 3, 4, 3, 0, .null, .int, 0)]
def k_208_4 : List Rw := [(.iload_n 3, 5, 3, 0, .null, .int, 0), (.aload_n 0, 6, 0, 0, .null, .int, 0), (.bipush 8, 8, 0, 0, .int (8), .int, 0), (.iaload, 9, 0, 0, .null, .int, 0), (.if_icmp .ge 53, 12, 62, 0, .null, .int, 0), (.aload_n 0, 13, 0, 0, .null, .int, 0), (.sipush 1088, 16, 0, 0, .int (1088), .int, 0), (.iload_n 3, 17, 3, 0, .null, .int, 0), (.iadd, 18, 0, 0, .null, .int, 0), (.iaload, 19, 0, 0, .null, .int, 0), (.iconst (-1), 20, 0, 0, .int (-1), .int, 0), (.if_icmp .ne 36, 23, 56, 0, .null, .int, 0), (.iload_n 1, 24, 1, 0, .null, .int, 0), (.iconst (-1), 25, 0, 0, .int (-1), .int, 0), (.if_icmp .eq 15, 28, 40, 0, .null, .int, 0), (.aload_n 0, 29, 0, 0, .null, .int, 0), (.iload_n 1, 30, 1, 0, .null, .int, 0), (.iload_n 3, 31, 3, 0, .null, .int, 0), (.invokestatic 237, 34, 285, 3, .null, .int, 284), (.ifCond .ne 6, 37, 40, 0, .null, .int, 0), (.goto 19, 40, 56, 0, .null, .int, 0)]
def k_208_40 : List Rw := [(.iload_n 2, 41, 2, 0, .null, .int, 0), (.iconst (-1), 42, 0, 0, .int (-1), .int, 0), (.if_icmp .eq 12, 45, 54, 0, .null, .int, 0), (.aload_n 0, 46, 0, 0, .null, .int, 0), (.iload_n 3, 47, 3, 0, .null, .int, 0), (.iload_n 2, 48, 2, 0, .null, .int, 0), (.invokestatic 237, 51, 285, 3, .null, .int, 284), (.ifCond .eq 5, 54, 56, 0, .null, .int, 0)]
def k_208_54 : List Rw := [(.iload_n 3, 55, 3, 0, .null, .int, 0), (.istore_n 2, 56, 2, 0, .null, .int, 0)]
def k_208_56 : List Rw := [(.iinc 3 1, 59, 3, 0, .int (1), .int, 0), (.goto (-55), 62, 4, 0, .null, .int, 0)]
def k_208_62 : List Rw := [(.iload_n 2, 63, 2, 0, .null, .int, 0), (.ireturn, 64, 0, 0, .null, .int, 0)]
def bl_208 : List (Nat × List Rw × Nat) := [(0, k_208_0, 4), (4, k_208_4, 99999), (40, k_208_40, 54), (54, k_208_54, 56), (56, k_208_56, 99999), (62, k_208_62, 99999)]
set_option maxRecDepth 1000000 in
theorem ok_208 : bl_208.all (fun b => rowsB e_208 b.1 b.2.1 b.2.2) = true := by decide +kernel
-- FishGrader.icedAt (I)I
abbrev e_209 : MIt := (⟨"FishGrader", "icedAt", "(I)I"⟩, prog_1_method_24_code, 2, (some .int), 2, 0, 7, 1)
def k_209_0 : List Rw := [(.aload_n 0, 1, 0, 0, .null, .int, 0), (.iload_n 1, 2, 1, 0, .null, .int, 0), (.invokevirtual 163, 5, 246, 2, .ref 7, .int, 245), (.aload_n 0, 6, 0, 0, .null, .int, 0), (.getfield 40, 9, 7, 7, .null, (.object "FishGrader$State"), 7), (.getfield 156, 12, 5, 13, .null, (.object "FishGrader$Boxes"), 38), (.getfield 174, 15, 0, 6, .null, (.array .int), 80), (.iload_n 1, 16, 1, 0, .null, .int, 0), (.iaload, 17, 0, 0, .null, .int, 0), (.ireturn, 18, 0, 0, .null, .int, 0)]
def bl_209 : List (Nat × List Rw × Nat) := [(0, k_209_0, 99999)]
set_option maxRecDepth 1000000 in
theorem ok_209 : bl_209.all (fun b => rowsB e_209 b.1 b.2.1 b.2.2) = true := by decide +kernel
-- FishGraderModel.ofBox (II)I
abbrev e_210 : MIt := (⟨"FishGraderModel", "ofBox", "(II)I"⟩, prog_11_method_64_code, 3, (some .int), 2, 0, 8, 2)
def k_210_0 : List Rw := [(.aload_n 0, 1, 0, 0, .null, .int, 0), (.aload_n 0, 2, 0, 0, .null, .int, 0), (.iload_n 1, 3, 1, 0, .null, .int, 0), (.invokevirtual 299, 6, 148, 2, .ref 8, .int, 147), (.invokevirtual 288, 9, 138, 2, .ref 8, .int, 137), (.ifCond .eq 14, 12, 23, 0, .null, .int, 0), (.aload_n 0, 13, 0, 0, .null, .int, 0), (.getfield 30, 16, 8, 15, .null, (.array .int), 21), (.iload_n 2, 17, 2, 0, .null, .int, 0), (.iload_n 1, 18, 1, 0, .null, .int, 0), (.iadd, 19, 0, 0, .null, .int, 0), (.iaload, 20, 0, 0, .null, .int, 0), (.goto 4, 23, 24, 0, .null, .int, 0)]
def k_210_23 : List Rw := [(.iconst 0, 24, 0, 0, .int (0), .int, 0)]
def k_210_24 : List Rw := [(.ireturn, 25, 0, 0, .null, .int, 0)]
def bl_210 : List (Nat × List Rw × Nat) := [(0, k_210_0, 99999), (23, k_210_23, 24), (24, k_210_24, 99999)]
set_option maxRecDepth 1000000 in
theorem ok_210 : bl_210.all (fun b => rowsB e_210 b.1 b.2.1 b.2.2) = true := by decide +kernel
-- FishGrader.closedAt (I)I
abbrev e_211 : MIt := (⟨"FishGrader", "closedAt", "(I)I"⟩, prog_1_method_23_code, 2, (some .int), 2, 0, 7, 1)
def k_211_0 : List Rw := [(.aload_n 0, 1, 0, 0, .null, .int, 0), (.iload_n 1, 2, 1, 0, .null, .int, 0), (.invokevirtual 163, 5, 246, 2, .ref 7, .int, 245), (.aload_n 0, 6, 0, 0, .null, .int, 0), (.getfield 40, 9, 7, 7, .null, (.object "FishGrader$State"), 7), (.getfield 156, 12, 5, 13, .null, (.object "FishGrader$Boxes"), 38), (.getfield 171, 15, 0, 5, .null, (.array .int), 93), (.iload_n 1, 16, 1, 0, .null, .int, 0), (.iaload, 17, 0, 0, .null, .int, 0), (.ireturn, 18, 0, 0, .null, .int, 0)]
def bl_211 : List (Nat × List Rw × Nat) := [(0, k_211_0, 99999)]
set_option maxRecDepth 1000000 in
theorem ok_211 : bl_211.all (fun b => rowsB e_211 b.1 b.2.1 b.2.2) = true := by decide +kernel
-- FishGrader.giveaway (I)I
abbrev e_212 : MIt := (⟨"FishGrader", "giveaway", "(I)I"⟩, prog_1_method_22_code, 2, (some .int), 2, 0, 7, 1)
def k_212_0 : List Rw := [(.aload_n 0, 1, 0, 0, .null, .int, 0), (.iload_n 1, 2, 1, 0, .null, .int, 0), (.invokevirtual 163, 5, 246, 2, .ref 7, .int, 245), (.aload_n 0, 6, 0, 0, .null, .int, 0), (.getfield 40, 9, 7, 7, .null, (.object "FishGrader$State"), 7), (.getfield 156, 12, 5, 13, .null, (.object "FishGrader$Boxes"), 38), (.iload_n 1, 13, 1, 0, .null, .int, 0), (.invokevirtual 168, 16, 248, 2, .ref 0, .int, 247), (.ireturn, 17, 0, 0, .null, .int, 0)]
def bl_212 : List (Nat × List Rw × Nat) := [(0, k_212_0, 99999)]
set_option maxRecDepth 1000000 in
theorem ok_212 : bl_212.all (fun b => rowsB e_212 b.1 b.2.1 b.2.2) = true := by decide +kernel
-- FishGrader.closedWeight (I)I
abbrev e_213 : MIt := (⟨"FishGrader", "closedWeight", "(I)I"⟩, prog_1_method_21_code, 2, (some .int), 2, 0, 7, 1)
def k_213_0 : List Rw := [(.aload_n 0, 1, 0, 0, .null, .int, 0), (.iload_n 1, 2, 1, 0, .null, .int, 0), (.invokevirtual 163, 5, 246, 2, .ref 7, .int, 245), (.aload_n 0, 6, 0, 0, .null, .int, 0), (.getfield 40, 9, 7, 7, .null, (.object "FishGrader$State"), 7), (.getfield 156, 12, 5, 13, .null, (.object "FishGrader$Boxes"), 38), (.getfield 167, 15, 0, 3, .null, (.array .int), 79), (.iload_n 1, 16, 1, 0, .null, .int, 0), (.iaload, 17, 0, 0, .null, .int, 0), (.ireturn, 18, 0, 0, .null, .int, 0)]
def bl_213 : List (Nat × List Rw × Nat) := [(0, k_213_0, 99999)]
set_option maxRecDepth 1000000 in
theorem ok_213 : bl_213.all (fun b => rowsB e_213 b.1 b.2.1 b.2.2) = true := by decide +kernel
-- FishGrader.closedSpecies (I)I
abbrev e_214 : MIt := (⟨"FishGrader", "closedSpecies", "(I)I"⟩, prog_1_method_20_code, 2, (some .int), 2, 0, 7, 1)
def k_214_0 : List Rw := [(.aload_n 0, 1, 0, 0, .null, .int, 0), (.iload_n 1, 2, 1, 0, .null, .int, 0), (.invokevirtual 163, 5, 246, 2, .ref 7, .int, 245), (.aload_n 0, 6, 0, 0, .null, .int, 0), (.getfield 40, 9, 7, 7, .null, (.object "FishGrader$State"), 7), (.getfield 156, 12, 5, 13, .null, (.object "FishGrader$Boxes"), 38), (.getfield 166, 15, 0, 2, .null, (.array .int), 77), (.iload_n 1, 16, 1, 0, .null, .int, 0), (.iaload, 17, 0, 0, .null, .int, 0), (.ireturn, 18, 0, 0, .null, .int, 0)]
def bl_214 : List (Nat × List Rw × Nat) := [(0, k_214_0, 99999)]
set_option maxRecDepth 1000000 in
theorem ok_214 : bl_214.all (fun b => rowsB e_214 b.1 b.2.1 b.2.2) = true := by decide +kernel
-- FishGrader.itemsIn (II)I
abbrev e_215 : MIt := (⟨"FishGrader", "itemsIn", "(II)I"⟩, prog_1_method_18_code, 3, (some .int), 3, 0, 7, 2)
def k_215_0 : List Rw := [(.aload_n 0, 1, 0, 0, .null, .int, 0), (.iload_n 1, 2, 1, 0, .null, .int, 0), (.iload_n 2, 3, 2, 0, .null, .int, 0), (.invokevirtual 146, 6, 261, 3, .ref 7, .int, 260), (.aload_n 0, 7, 0, 0, .null, .int, 0), (.getfield 40, 10, 7, 7, .null, (.object "FishGrader$State"), 7), (.getfield 108, 13, 5, 12, .null, (.object "FishGrader$Items"), 32), (.iload_n 1, 14, 1, 0, .null, .int, 0), (.iload_n 2, 15, 2, 0, .null, .int, 0), (.invokevirtual 153, 18, 286, 3, .ref 1, .int, 285), (.ireturn, 19, 0, 0, .null, .int, 0)]
def bl_215 : List (Nat × List Rw × Nat) := [(0, k_215_0, 99999)]
set_option maxRecDepth 1000000 in
theorem ok_215 : bl_215.all (fun b => rowsB e_215 b.1 b.2.1 b.2.2) = true := by decide +kernel
-- FishGrader.content (II)I
abbrev e_216 : MIt := (⟨"FishGrader", "content", "(II)I"⟩, prog_1_method_17_code, 3, (some .int), 3, 0, 7, 2)
def k_216_0 : List Rw := [(.aload_n 0, 1, 0, 0, .null, .int, 0), (.iload_n 1, 2, 1, 0, .null, .int, 0), (.iload_n 2, 3, 2, 0, .null, .int, 0), (.invokevirtual 146, 6, 261, 3, .ref 7, .int, 260), (.aload_n 0, 7, 0, 0, .null, .int, 0), (.getfield 40, 10, 7, 7, .null, (.object "FishGrader$State"), 7), (.getfield 150, 13, 5, 11, .null, (.array .int), 87), (.iload_n 1, 14, 1, 0, .null, .int, 0), (.iconst 3, 15, 0, 0, .int (3), .int, 0), (.imul, 16, 0, 0, .null, .int, 0), (.iload_n 2, 17, 2, 0, .null, .int, 0), (.iadd, 18, 0, 0, .null, .int, 0), (.iaload, 19, 0, 0, .null, .int, 0), (.ireturn, 20, 0, 0, .null, .int, 0)]
def bl_216 : List (Nat × List Rw × Nat) := [(0, k_216_0, 99999)]
set_option maxRecDepth 1000000 in
theorem ok_216 : bl_216.all (fun b => rowsB e_216 b.1 b.2.1 b.2.2) = true := by decide +kernel
-- FishGrader.agreement (I)I
abbrev e_217 : MIt := (⟨"FishGrader", "agreement", "(I)I"⟩, prog_1_method_16_code, 2, (some .int), 3, 0, 7, 1)
def k_217_0 : List Rw := [(.aload_n 0, 1, 0, 0, .null, .int, 0), (.iload_n 1, 2, 1, 0, .null, .int, 0), (.invokevirtual 120, 5, 287, 2, .ref 7, .int, 286), (.aload_n 0, 6, 0, 0, .null, .int, 0), (.getfield 40, 9, 7, 7, .null, (.object "FishGrader$State"), 7), (.getfield 108, 12, 5, 12, .null, (.object "FishGrader$Items"), 32), (.iload_n 1, 13, 1, 0, .null, .int, 0), (.invokevirtual 142, 16, 288, 2, .ref 1, .int, 287), (.ireturn, 17, 0, 0, .null, .int, 0)]
def bl_217 : List (Nat × List Rw × Nat) := [(0, k_217_0, 99999)]
set_option maxRecDepth 1000000 in
theorem ok_217 : bl_217.all (fun b => rowsB e_217 b.1 b.2.1 b.2.2) = true := by decide +kernel
-- FishGraderModel.isItem (I)Z
abbrev e_218 : MIt := (⟨"FishGraderModel", "isItem", "(I)Z"⟩, prog_11_method_50_code, 2, (some .boolean), 1, 0, 8, 1)
def k_218_0 : List Rw := [(.iload_n 1, 1, 1, 0, .null, .int, 0), (.iconst 0, 2, 0, 0, .int (0), .int, 0), (.aload_n 0, 3, 0, 0, .null, .int, 0), (.getfield 30, 6, 8, 15, .null, (.array .int), 21), (.bipush 9, 8, 0, 0, .int (9), .int, 0), (.iaload, 9, 0, 0, .null, .int, 0), (.iconst 1, 10, 0, 0, .int (1), .int, 0), (.isub, 11, 0, 0, .null, .int, 0), (.invokestatic 84, 14, 136, 3, .null, .int, 135), (.ireturn, 15, 0, 0, .null, .int, 0)]
def bl_218 : List (Nat × List Rw × Nat) := [(0, k_218_0, 99999)]
set_option maxRecDepth 1000000 in
theorem ok_218 : bl_218.all (fun b => rowsB e_218 b.1 b.2.1 b.2.2) = true := by decide +kernel
-- FishGraderModel.lead ([III)I
abbrev e_219 : MIt := (⟨"FishGraderModel", "lead", "([III)I"⟩, prog_11_method_27_code, 6, (some .int), 1, 1, 8, 3)
def k_219_0 : List Rw := [(.aload_n 0, 1, 0, 0, .null, .int, 0), (.iload_n 1, 2, 1, 0, .null, .int, 0), (.iload_n 2, 3, 2, 0, .null, .int, 0), (.invokestatic 198, 6, 259, 3, .null, .int, 258), (.istore_n 3, 7, 3, 0, .null, .int, 0), (.iconst 0, 8, 0, 0, .int (0), .int, 0), (.istore 4, 10, 4, 0, .null, .int, 0), (.iconst 0, 11, 0, 0, .int (0), .int, 0), (.istore 5, 13, 5, 0, .null, .int, 0)]
def k_219_13 : List Rw := [(.iload 5, 15, 5, 0, .null, .int, 0), (.iload_n 2, 16, 2, 0, .null, .int, 0), (.if_icmp .ge 34, 19, 50, 0, .null, .int, 0), (.iload 5, 21, 5, 0, .null, .int, 0), (.iload_n 3, 22, 3, 0, .null, .int, 0), (.if_icmp .eq 22, 25, 44, 0, .null, .int, 0), (.iload 4, 27, 4, 0, .null, .int, 0), (.aload_n 0, 28, 0, 0, .null, .int, 0), (.sipush 368, 31, 0, 0, .int (368), .int, 0), (.iconst 4, 32, 0, 0, .int (4), .int, 0), (.iload_n 1, 33, 1, 0, .null, .int, 0), (.imul, 34, 0, 0, .null, .int, 0), (.iadd, 35, 0, 0, .null, .int, 0), (.iload 5, 37, 5, 0, .null, .int, 0), (.iadd, 38, 0, 0, .null, .int, 0), (.iaload, 39, 0, 0, .null, .int, 0), (.invokestatic 202, 42, 0, 2, .int 1, .int, 0), (.istore 4, 44, 4, 0, .null, .int, 0)]
def k_219_44 : List Rw := [(.iinc 5 1, 47, 5, 0, .int (1), .int, 0), (.goto (-34), 50, 13, 0, .null, .int, 0)]
def k_219_50 : List Rw := [(.aload_n 0, 51, 0, 0, .null, .int, 0), (.sipush 368, 54, 0, 0, .int (368), .int, 0), (.iconst 4, 55, 0, 0, .int (4), .int, 0), (.iload_n 1, 56, 1, 0, .null, .int, 0), (.imul, 57, 0, 0, .null, .int, 0), (.iadd, 58, 0, 0, .null, .int, 0), (.iload_n 3, 59, 3, 0, .null, .int, 0), (.iadd, 60, 0, 0, .null, .int, 0), (.iaload, 61, 0, 0, .null, .int, 0), (.iload 4, 63, 4, 0, .null, .int, 0), (.isub, 64, 0, 0, .null, .int, 0), (.ireturn, 65, 0, 0, .null, .int, 0)]
def bl_219 : List (Nat × List Rw × Nat) := [(0, k_219_0, 13), (13, k_219_13, 44), (44, k_219_44, 99999), (50, k_219_50, 99999)]
set_option maxRecDepth 1000000 in
theorem ok_219 : bl_219.all (fun b => rowsB e_219 b.1 b.2.1 b.2.2) = true := by decide +kernel
-- FishGrader.boxOf (I)I
abbrev e_220 : MIt := (⟨"FishGrader", "boxOf", "(I)I"⟩, prog_1_method_15_code, 2, (some .int), 2, 0, 7, 1)
def k_220_0 : List Rw := [(.aload_n 0, 1, 0, 0, .null, .int, 0), (.iload_n 1, 2, 1, 0, .null, .int, 0), (.invokevirtual 120, 5, 287, 2, .ref 7, .int, 286), (.aload_n 0, 6, 0, 0, .null, .int, 0), (.getfield 40, 9, 7, 7, .null, (.object "FishGrader$State"), 7), (.getfield 108, 12, 5, 12, .null, (.object "FishGrader$Items"), 32), (.getfield 139, 15, 1, 5, .null, (.array .int), 94), (.iload_n 1, 16, 1, 0, .null, .int, 0), (.iaload, 17, 0, 0, .null, .int, 0), (.ireturn, 18, 0, 0, .null, .int, 0)]
def bl_220 : List (Nat × List Rw × Nat) := [(0, k_220_0, 99999)]
set_option maxRecDepth 1000000 in
theorem ok_220 : bl_220.all (fun b => rowsB e_220 b.1 b.2.1 b.2.2) = true := by decide +kernel
-- FishGrader.stateOf (I)I
abbrev e_221 : MIt := (⟨"FishGrader", "stateOf", "(I)I"⟩, prog_1_method_14_code, 2, (some .int), 2, 0, 7, 1)
def k_221_0 : List Rw := [(.aload_n 0, 1, 0, 0, .null, .int, 0), (.iload_n 1, 2, 1, 0, .null, .int, 0), (.invokevirtual 120, 5, 287, 2, .ref 7, .int, 286), (.aload_n 0, 6, 0, 0, .null, .int, 0), (.getfield 40, 9, 7, 7, .null, (.object "FishGrader$State"), 7), (.getfield 108, 12, 5, 12, .null, (.object "FishGrader$Items"), 32), (.getfield 136, 15, 1, 4, .null, (.array .int), 95), (.iload_n 1, 16, 1, 0, .null, .int, 0), (.iaload, 17, 0, 0, .null, .int, 0), (.ireturn, 18, 0, 0, .null, .int, 0)]
def bl_221 : List (Nat × List Rw × Nat) := [(0, k_221_0, 99999)]
set_option maxRecDepth 1000000 in
theorem ok_221 : bl_221.all (fun b => rowsB e_221 b.1 b.2.1 b.2.2) = true := by decide +kernel
-- FishGraderModel.ofItem (II)I
abbrev e_222 : MIt := (⟨"FishGraderModel", "ofItem", "(II)I"⟩, prog_11_method_54_code, 3, (some .int), 2, 0, 8, 2)
def k_222_0 : List Rw := [(.aload_n 0, 1, 0, 0, .null, .int, 0), (.aload_n 0, 2, 0, 0, .null, .int, 0), (.iload_n 1, 3, 1, 0, .null, .int, 0), (.invokevirtual 285, 6, 218, 2, .ref 8, .int, 217), (.invokevirtual 288, 9, 138, 2, .ref 8, .int, 137), (.ifCond .eq 14, 12, 23, 0, .null, .int, 0), (.aload_n 0, 13, 0, 0, .null, .int, 0), (.getfield 30, 16, 8, 15, .null, (.array .int), 21), (.iload_n 2, 17, 2, 0, .null, .int, 0), (.iload_n 1, 18, 1, 0, .null, .int, 0), (.iadd, 19, 0, 0, .null, .int, 0), (.iaload, 20, 0, 0, .null, .int, 0), (.goto 4, 23, 24, 0, .null, .int, 0)]
def k_222_23 : List Rw := [(.iconst 0, 24, 0, 0, .int (0), .int, 0)]
def k_222_24 : List Rw := [(.ireturn, 25, 0, 0, .null, .int, 0)]
def bl_222 : List (Nat × List Rw × Nat) := [(0, k_222_0, 99999), (23, k_222_23, 24), (24, k_222_24, 99999)]
set_option maxRecDepth 1000000 in
theorem ok_222 : bl_222.all (fun b => rowsB e_222 b.1 b.2.1 b.2.2) = true := by decide +kernel
-- FishGrader.speciesOf (I)I
abbrev e_223 : MIt := (⟨"FishGrader", "speciesOf", "(I)I"⟩, prog_1_method_13_code, 2, (some .int), 2, 0, 7, 1)
def k_223_0 : List Rw := [(.aload_n 0, 1, 0, 0, .null, .int, 0), (.iload_n 1, 2, 1, 0, .null, .int, 0), (.invokevirtual 120, 5, 287, 2, .ref 7, .int, 286), (.aload_n 0, 6, 0, 0, .null, .int, 0), (.getfield 40, 9, 7, 7, .null, (.object "FishGrader$State"), 7), (.getfield 108, 12, 5, 12, .null, (.object "FishGrader$Items"), 32), (.getfield 133, 15, 1, 3, .null, (.array .int), 86), (.iload_n 1, 16, 1, 0, .null, .int, 0), (.iaload, 17, 0, 0, .null, .int, 0), (.ireturn, 18, 0, 0, .null, .int, 0)]
def bl_223 : List (Nat × List Rw × Nat) := [(0, k_223_0, 99999)]
set_option maxRecDepth 1000000 in
theorem ok_223 : bl_223.all (fun b => rowsB e_223 b.1 b.2.1 b.2.2) = true := by decide +kernel
-- FishGrader.score (II)I
abbrev e_224 : MIt := (⟨"FishGrader", "score", "(II)I"⟩, prog_1_method_12_code, 3, (some .int), 2, 0, 7, 2)
def k_224_0 : List Rw := [(.aload_n 0, 1, 0, 0, .null, .int, 0), (.iload_n 1, 2, 1, 0, .null, .int, 0), (.invokevirtual 120, 5, 287, 2, .ref 7, .int, 286), (.aload_n 0, 6, 0, 0, .null, .int, 0), (.iload_n 2, 7, 2, 0, .null, .int, 0), (.invokevirtual 126, 10, 250, 2, .ref 7, .int, 249), (.aload_n 0, 11, 0, 0, .null, .int, 0), (.getfield 40, 14, 7, 7, .null, (.object "FishGrader$State"), 7), (.getfield 108, 17, 5, 12, .null, (.object "FishGrader$Items"), 32), (.iload_n 1, 18, 1, 0, .null, .int, 0), (.iload_n 2, 19, 2, 0, .null, .int, 0), (.invokevirtual 129, 22, 289, 3, .ref 1, .int, 288), (.ireturn, 23, 0, 0, .null, .int, 0)]
def bl_224 : List (Nat × List Rw × Nat) := [(0, k_224_0, 99999)]
set_option maxRecDepth 1000000 in
theorem ok_224 : bl_224.all (fun b => rowsB e_224 b.1 b.2.1 b.2.2) = true := by decide +kernel
-- FishGrader.weight (I)I
abbrev e_225 : MIt := (⟨"FishGrader", "weight", "(I)I"⟩, prog_1_method_11_code, 2, (some .int), 2, 0, 7, 1)
def k_225_0 : List Rw := [(.aload_n 0, 1, 0, 0, .null, .int, 0), (.iload_n 1, 2, 1, 0, .null, .int, 0), (.invokevirtual 120, 5, 287, 2, .ref 7, .int, 286), (.aload_n 0, 6, 0, 0, .null, .int, 0), (.getfield 40, 9, 7, 7, .null, (.object "FishGrader$State"), 7), (.getfield 108, 12, 5, 12, .null, (.object "FishGrader$Items"), 32), (.getfield 123, 15, 1, 2, .null, (.array .int), 96), (.iload_n 1, 16, 1, 0, .null, .int, 0), (.iaload, 17, 0, 0, .null, .int, 0), (.ireturn, 18, 0, 0, .null, .int, 0)]
def bl_225 : List (Nat × List Rw × Nat) := [(0, k_225_0, 99999)]
set_option maxRecDepth 1000000 in
theorem ok_225 : bl_225.all (fun b => rowsB e_225 b.1 b.2.1 b.2.2) = true := by decide +kernel
