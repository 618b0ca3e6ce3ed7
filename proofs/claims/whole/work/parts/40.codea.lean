-- FishGrader.<init> ()V
abbrev e_1 : MIt := (⟨"FishGrader", "<init>", "()V"⟩, prog_1_method_1_code, 1, none, 2, 2, 7, 0)
def k_1_0 : List Rw := [(.aload_n 0, 1, 0, 0, .null, .int, 0), (.invokespecial 1, 4, 0, 0, .int 1, .int, 0), (.aload_n 0, 5, 0, 0, .null, .int, 0), (.sipush 1500, 8, 0, 0, .int (1500), .int, 0), (.newarray .byte, 10, 0, 0, .null, .byte, 0), (.putfield 9, 13, 7, 0, .null, (.array .byte), 0), (.aload_n 0, 14, 0, 0, .null, .int, 0), (.iconst 0, 15, 0, 0, .int (0), .int, 0), (.putfield 13, 18, 7, 1, .null, .int, 1), (.aload_n 0, 19, 0, 0, .null, .int, 0), (.iconst 0, 20, 0, 0, .int (0), .int, 0), (.putfield 17, 23, 7, 2, .null, .int, 2), (.aload_n 0, 24, 0, 0, .null, .int, 0), (.iconst (-1), 25, 0, 0, .int (-1), .int, 0), (.putfield 20, 28, 7, 3, .null, .int, 3), (.aload_n 0, 29, 0, 0, .null, .int, 0), (.iconst 0, 30, 0, 0, .int (0), .int, 0), (.putfield 23, 33, 7, 4, .null, .boolean, 4), (.aload_n 0, 34, 0, 0, .null, .int, 0), (.new 27, 37, 4, 16, .null, .int, 2), (.dup, 38, 0, 0, .null, .int, 0), (.invokespecial 29, 41, 132, 1, .null, .int, 131), (.putfield 30, 44, 7, 5, .null, (.object "FishGrader$Setup"), 5), (.aload_n 0, 45, 0, 0, .null, .int, 0), (.new 27, 48, 4, 16, .null, .int, 2), (.dup, 49, 0, 0, .null, .int, 0), (.invokespecial 29, 52, 132, 1, .null, .int, 131), (.putfield 34, 55, 7, 6, .null, (.object "FishGrader$Setup"), 6), (.aload_n 0, 56, 0, 0, .null, .int, 0), (.new 37, 59, 5, 14, .null, .int, 3), (.dup, 60, 0, 0, .null, .int, 0), (.invokespecial 39, 63, 133, 1, .null, .int, 132), (.putfield 40, 66, 7, 7, .null, (.object "FishGrader$State"), 7), (.aload_n 0, 67, 0, 0, .null, .int, 0), (.new 37, 70, 5, 14, .null, .int, 3), (.dup, 71, 0, 0, .null, .int, 0), (.invokespecial 39, 74, 133, 1, .null, .int, 132), (.putfield 44, 77, 7, 8, .null, (.object "FishGrader$State"), 8), (.aload_n 0, 78, 0, 0, .null, .int, 0), (.iconst 0, 79, 0, 0, .int (0), .int, 0), (.putfield 47, 82, 7, 9, .null, .boolean, 9), (.aload_n 0, 83, 0, 0, .null, .int, 0), (.new 37, 86, 5, 14, .null, .int, 3), (.dup, 87, 0, 0, .null, .int, 0), (.invokespecial 39, 90, 133, 1, .null, .int, 132), (.putfield 50, 93, 7, 10, .null, (.object "FishGrader$State"), 10), (.aload_n 0, 94, 0, 0, .null, .int, 0), (.iconst 0, 95, 0, 0, .int (0), .int, 0), (.putfield 53, 98, 7, 11, .null, .int, 11), (.aload_n 0, 99, 0, 0, .null, .int, 0), (.bipush 8, 101, 0, 0, .int (8), .int, 0), (.anewarray 37, 104, 0, 0, .null, (.object "FishGrader$State"), 0), (.putfield 56, 107, 7, 12, .null, (.array (.object "FishGrader$State")), 12), (.aload_n 0, 108, 0, 0, .null, .int, 0), (.new 60, 111, 10, 4, .null, .int, 4), (.dup, 112, 0, 0, .null, .int, 0), (.invokespecial 62, 115, 134, 1, .null, .int, 133), (.putfield 63, 118, 7, 13, .null, (.object "java/lang/StringBuilder"), 13), (.aload_n 0, 119, 0, 0, .null, .int, 0), (.bipush 12, 121, 0, 0, .int (12), .int, 0), (.newarray .int, 123, 0, 0, .null, .int, 0), (.putfield 67, 126, 7, 14, .null, (.array .int), 14), (.return_, 127, 0, 0, .null, .int, 0)]
def bl_1 : List (Nat × List Rw × Nat) := [(0, k_1_0, 99999)]
set_option maxRecDepth 1000000 in
theorem ok_1 : bl_1.all (fun b => rowsB e_1 b.1 b.2.1 b.2.2) = true := by decide +kernel
-- FishGraderModel.<init> ()V
abbrev e_2 : MIt := (⟨"FishGraderModel", "<init>", "()V"⟩, prog_11_method_1_code, 1, none, 0, 2, 8, 0)
def k_2_0 : List Rw := [(.aload_n 0, 1, 0, 0, .null, .int, 0), (.invokespecial 1, 4, 0, 0, .int 1, .int, 1), (.aload_n 0, 5, 0, 0, .null, .int, 0), (.sipush 1500, 8, 0, 0, .int (1500), .int, 0), (.newarray .int, 10, 0, 0, .null, .int, 0), (.putfield 9, 13, 8, 1, .null, (.array .int), 15), (.aload_n 0, 14, 0, 0, .null, .int, 0), (.iconst (-1), 15, 0, 0, .int (-1), .int, 0), (.putfield 13, 18, 8, 6, .null, .int, 16), (.aload_n 0, 19, 0, 0, .null, .int, 0), (.bipush 26, 21, 0, 0, .int (26), .int, 0), (.newarray .int, 23, 0, 0, .null, .int, 0), (.putfield 17, 26, 8, 11, .null, (.array .int), 17), (.aload_n 0, 27, 0, 0, .null, .int, 0), (.bipush 26, 29, 0, 0, .int (26), .int, 0), (.newarray .int, 31, 0, 0, .null, .int, 0), (.putfield 20, 34, 8, 12, .null, (.array .int), 18), (.aload_n 0, 35, 0, 0, .null, .int, 0), (.iconst 4, 36, 0, 0, .int (4), .int, 0), (.newarray .long, 38, 0, 0, .null, .long, 0), (.putfield 23, 41, 8, 13, .null, (.array .long), 19), (.aload_n 0, 42, 0, 0, .null, .int, 0), (.iconst 4, 43, 0, 0, .int (4), .int, 0), (.newarray .long, 45, 0, 0, .null, .long, 0), (.putfield 27, 48, 8, 14, .null, (.array .long), 20), (.aload_n 0, 49, 0, 0, .null, .int, 0), (.sipush 1168, 52, 0, 0, .int (1168), .int, 0), (.newarray .int, 54, 0, 0, .null, .int, 0), (.putfield 30, 57, 8, 15, .null, (.array .int), 21), (.aload_n 0, 58, 0, 0, .null, .int, 0), (.sipush 1168, 61, 0, 0, .int (1168), .int, 0), (.newarray .int, 63, 0, 0, .null, .int, 0), (.putfield 33, 66, 8, 16, .null, (.array .int), 22), (.aload_n 0, 67, 0, 0, .null, .int, 0), (.sipush 1168, 70, 0, 0, .int (1168), .int, 0), (.newarray .int, 72, 0, 0, .null, .int, 0), (.putfield 36, 75, 8, 17, .null, (.array .int), 23), (.aload_n 0, 76, 0, 0, .null, .int, 0), (.sipush 9344, 79, 0, 0, .int (9344), .int, 0), (.newarray .int, 81, 0, 0, .null, .int, 0), (.putfield 39, 84, 8, 18, .null, (.array .int), 24), (.aload_n 0, 85, 0, 0, .null, .int, 0), (.sipush 1168, 88, 0, 0, .int (1168), .int, 0), (.newarray .int, 90, 0, 0, .null, .int, 0), (.putfield 42, 93, 8, 19, .null, (.array .int), 25), (.aload_n 0, 94, 0, 0, .null, .int, 0), (.bipush 12, 96, 0, 0, .int (12), .int, 0), (.newarray .int, 98, 0, 0, .null, .int, 0), (.putfield 45, 101, 8, 24, .null, (.array .int), 26), (.aload_n 0, 102, 0, 0, .null, .int, 0), (.sipush 300, 105, 0, 0, .int (300), .int, 0), (.newarray .int, 107, 0, 0, .null, .int, 0), (.putfield 48, 110, 8, 25, .null, (.array .int), 27), (.return_, 111, 0, 0, .null, .int, 0)]
def bl_2 : List (Nat × List Rw × Nat) := [(0, k_2_0, 99999)]
set_option maxRecDepth 1000000 in
theorem ok_2 : bl_2.all (fun b => rowsB e_2 b.1 b.2.1 b.2.2) = true := by decide +kernel
-- FishGraderLaw.labelByte (LFishGrader;I[J)I
abbrev e_3 : MIt := (⟨"FishGraderLaw", "labelByte", "(LFishGrader;I[J)I"⟩, method_52_code, 4, (some .int), 3, 3, 0, 3)
def k_3_0 : List Rw := [(.aload_n 2, 1, 2, 0, .null, .int, 0), (.iconst 0, 2, 0, 0, .int (0), .int, 0), (.aload_n 0, 3, 0, 0, .null, .int, 0), (.iload_n 1, 4, 1, 0, .null, .int, 0), (.invokevirtual 171, 7, 135, 2, .ref 7, .int, 134), (.i2l, 8, 0, 0, .null, .int, 0), (.lastore, 9, 0, 0, .null, .int, 0), (.goto 6, 12, 15, 0, .null, .int, 0)]
def k_3_13 : List Rw := [(.iconst 1, 14, 0, 0, .int (1), .int, 0), (.ireturn, 15, 0, 0, .null, .int, 0)]
def k_3_15 : List Rw := [(.iconst 0, 16, 0, 0, .int (0), .int, 0), (.ireturn, 17, 0, 0, .null, .int, 0)]
def bl_3 : List (Nat × List Rw × Nat) := [(0, k_3_0, 99999), (13, k_3_13, 99999), (15, k_3_15, 99999)]
set_option maxRecDepth 1000000 in
theorem ok_3 : bl_3.all (fun b => rowsB e_3 b.1 b.2.1 b.2.2) = true := by decide +kernel
-- FishGraderModel.labelByte (I)I
abbrev e_4 : MIt := (⟨"FishGraderModel", "labelByte", "(I)I"⟩, prog_11_method_132_code, 2, (some .int), 1, 0, 8, 1)
def k_4_0 : List Rw := [(.aload_n 0, 1, 0, 0, .null, .int, 0), (.iload_n 1, 2, 1, 0, .null, .int, 0), (.iconst 0, 3, 0, 0, .int (0), .int, 0), (.aload_n 0, 4, 0, 0, .null, .int, 0), (.getfield 363, 7, 8, 26, .null, .int, 28), (.iconst 1, 8, 0, 0, .int (1), .int, 0), (.isub, 9, 0, 0, .null, .int, 0), (.invokestatic 84, 12, 136, 3, .null, .int, 135), (.ifCond .eq 7, 15, 19, 0, .null, .int, 0), (.iconst 0, 16, 0, 0, .int (0), .int, 0), (.goto 4, 19, 20, 0, .null, .int, 0)]
def k_4_19 : List Rw := [(.iconst 1, 20, 0, 0, .int (1), .int, 0)]
def k_4_20 : List Rw := [(.putfield 51, 23, 8, 0, .null, .int, 29), (.aload_n 0, 24, 0, 0, .null, .int, 0), (.getfield 51, 27, 8, 0, .null, .int, 29), (.ifCond .ne 12, 30, 39, 0, .null, .int, 0), (.aload_n 0, 31, 0, 0, .null, .int, 0), (.getfield 48, 34, 8, 25, .null, (.array .int), 27), (.iload_n 1, 35, 1, 0, .null, .int, 0), (.iaload, 36, 0, 0, .null, .int, 0), (.goto 4, 39, 40, 0, .null, .int, 0)]
def k_4_39 : List Rw := [(.iconst 0, 40, 0, 0, .int (0), .int, 0)]
def k_4_40 : List Rw := [(.ireturn, 41, 0, 0, .null, .int, 0)]
def bl_4 : List (Nat × List Rw × Nat) := [(0, k_4_0, 99999), (19, k_4_19, 20), (20, k_4_20, 99999), (39, k_4_39, 40), (40, k_4_40, 99999)]
set_option maxRecDepth 1000000 in
theorem ok_4 : bl_4.all (fun b => rowsB e_4 b.1 b.2.1 b.2.2) = true := by decide +kernel
-- FishGraderModel.thrown ()I
abbrev e_5 : MIt := (⟨"FishGraderModel", "thrown", "()I"⟩, prog_11_method_2_code, 1, (some .int), 0, 0, 8, 0)
def k_5_0 : List Rw := [(.aload_n 0, 1, 0, 0, .null, .int, 0), (.getfield 51, 4, 8, 0, .null, .int, 29), (.ireturn, 5, 0, 0, .null, .int, 0)]
def bl_5 : List (Nat × List Rw × Nat) := [(0, k_5_0, 99999)]
set_option maxRecDepth 1000000 in
theorem ok_5 : bl_5.all (fun b => rowsB e_5 b.1 b.2.1 b.2.2) = true := by decide +kernel
-- FishGraderLaw.report (LFishGrader;[J)I
abbrev e_6 : MIt := (⟨"FishGraderLaw", "report", "(LFishGrader;[J)I"⟩, method_51_code, 3, (some .int), 7, 3, 0, 2)
def k_6_0 : List Rw := [(.aload_n 1, 1, 1, 0, .null, .int, 0), (.iconst 0, 2, 0, 0, .int (0), .int, 0), (.aload_n 0, 3, 0, 0, .null, .int, 0), (.invokevirtual 168, 6, 137, 1, .ref 7, .int, 136), (.i2l, 7, 0, 0, .null, .int, 0), (.lastore, 8, 0, 0, .null, .int, 0), (.goto 6, 11, 14, 0, .null, .int, 0)]
def k_6_12 : List Rw := [(.iconst 1, 13, 0, 0, .int (1), .int, 0), (.ireturn, 14, 0, 0, .null, .int, 0)]
def k_6_14 : List Rw := [(.iconst 0, 15, 0, 0, .int (0), .int, 0), (.ireturn, 16, 0, 0, .null, .int, 0)]
def bl_6 : List (Nat × List Rw × Nat) := [(0, k_6_0, 99999), (12, k_6_12, 99999), (14, k_6_14, 99999)]
set_option maxRecDepth 1000000 in
theorem ok_6 : bl_6.all (fun b => rowsB e_6 b.1 b.2.1 b.2.2) = true := by decide +kernel
-- FishGraderModel.report ()I
abbrev e_7 : MIt := (⟨"FishGraderModel", "report", "()I"⟩, prog_11_method_131_code, 2, (some .int), 3, 0, 8, 0)
def k_7_0 : List Rw := [(.aload_n 0, 1, 0, 0, .null, .int, 0), (.iconst 1, 2, 0, 0, .int (1), .int, 0), (.invokevirtual 288, 5, 138, 2, .ref 8, .int, 137), (.ifCond .ne 5, 8, 10, 0, .null, .int, 0), (.iconst 0, 9, 0, 0, .int (0), .int, 0), (.ireturn, 10, 0, 0, .null, .int, 0)]
def k_7_10 : List Rw := [(.aload_n 0, 11, 0, 0, .null, .int, 0), (.iconst 0, 12, 0, 0, .int (0), .int, 0), (.putfield 363, 15, 8, 26, .null, .int, 28), (.iconst 0, 16, 0, 0, .int (0), .int, 0), (.istore_n 1, 17, 1, 0, .null, .int, 0)]
def k_7_17 : List Rw := [(.iload_n 1, 18, 1, 0, .null, .int, 0), (.aload_n 0, 19, 0, 0, .null, .int, 0), (.getfield 17, 22, 8, 11, .null, (.array .int), 17), (.bipush 7, 24, 0, 0, .int (7), .int, 0), (.iaload, 25, 0, 0, .null, .int, 0), (.if_icmp .ge 143, 28, 168, 0, .null, .int, 0), (.iload_n 1, 29, 1, 0, .null, .int, 0), (.ifCond .le 9, 32, 38, 0, .null, .int, 0), (.aload_n 0, 33, 0, 0, .null, .int, 0), (.bipush 59, 35, 0, 0, .int (59), .int, 0), (.invokevirtual 366, 38, 139, 2, .ref 8, .int, 138)]
def k_7_38 : List Rw := [(.aload_n 0, 39, 0, 0, .null, .int, 0), (.aload_n 0, 40, 0, 0, .null, .int, 0), (.getfield 23, 43, 8, 13, .null, (.array .long), 19), (.iload_n 1, 44, 1, 0, .null, .int, 0), (.laload, 45, 0, 0, .null, .int, 0), (.invokevirtual 371, 48, 140, 2, .ref 8, .int, 139), (.aload_n 0, 49, 0, 0, .null, .int, 0), (.bipush 32, 51, 0, 0, .int (32), .int, 0), (.invokevirtual 366, 54, 139, 2, .ref 8, .int, 138), (.aload_n 0, 55, 0, 0, .null, .int, 0), (.aload_n 0, 56, 0, 0, .null, .int, 0), (.getfield 30, 59, 8, 15, .null, (.array .int), 21), (.iconst 0, 60, 0, 0, .int (0), .int, 0), (.iload_n 1, 61, 1, 0, .null, .int, 0), (.invokestatic 319, 64, 141, 3, .null, .int, 140), (.invokevirtual 375, 67, 142, 2, .ref 8, .int, 141), (.aload_n 0, 68, 0, 0, .null, .int, 0), (.bipush 120, 70, 0, 0, .int (120), .int, 0), (.invokevirtual 366, 73, 139, 2, .ref 8, .int, 138), (.aload_n 0, 74, 0, 0, .null, .int, 0), (.aload_n 0, 75, 0, 0, .null, .int, 0), (.getfield 30, 78, 8, 15, .null, (.array .int), 21), (.bipush 10, 80, 0, 0, .int (10), .int, 0), (.iload_n 1, 81, 1, 0, .null, .int, 0), (.iadd, 82, 0, 0, .null, .int, 0), (.iaload, 83, 0, 0, .null, .int, 0), (.invokevirtual 375, 86, 142, 2, .ref 8, .int, 141), (.aload_n 0, 87, 0, 0, .null, .int, 0), (.bipush 32, 89, 0, 0, .int (32), .int, 0), (.invokevirtual 366, 92, 139, 2, .ref 8, .int, 138), (.aload_n 0, 93, 0, 0, .null, .int, 0), (.aload_n 0, 94, 0, 0, .null, .int, 0), (.getfield 30, 97, 8, 15, .null, (.array .int), 21), (.iconst 0, 98, 0, 0, .int (0), .int, 0), (.iload_n 1, 99, 1, 0, .null, .int, 0), (.invokestatic 316, 102, 143, 3, .null, .int, 142), (.invokevirtual 375, 105, 142, 2, .ref 8, .int, 141), (.aload_n 0, 106, 0, 0, .null, .int, 0), (.bipush 32, 108, 0, 0, .int (32), .int, 0), (.invokevirtual 366, 111, 139, 2, .ref 8, .int, 138), (.aload_n 0, 112, 0, 0, .null, .int, 0), (.aload_n 0, 113, 0, 0, .null, .int, 0), (.getfield 30, 116, 8, 15, .null, (.array .int), 21), (.bipush 18, 118, 0, 0, .int (18), .int, 0), (.iload_n 1, 119, 1, 0, .null, .int, 0), (.iadd, 120, 0, 0, .null, .int, 0), (.iaload, 121, 0, 0, .null, .int, 0), (.invokevirtual 375, 124, 142, 2, .ref 8, .int, 141), (.aload_n 0, 125, 0, 0, .null, .int, 0), (.bipush 47, 127, 0, 0, .int (47), .int, 0), (.invokevirtual 366, 130, 139, 2, .ref 8, .int, 138), (.aload_n 0, 131, 0, 0, .null, .int, 0), (.aload_n 0, 132, 0, 0, .null, .int, 0), (.getfield 30, 135, 8, 15, .null, (.array .int), 21), (.bipush 14, 137, 0, 0, .int (14), .int, 0), (.iload_n 1, 138, 1, 0, .null, .int, 0), (.iadd, 139, 0, 0, .null, .int, 0), (.iaload, 140, 0, 0, .null, .int, 0), (.invokevirtual 375, 143, 142, 2, .ref 8, .int, 141), (.aload_n 0, 144, 0, 0, .null, .int, 0), (.bipush 32, 146, 0, 0, .int (32), .int, 0), (.invokevirtual 366, 149, 139, 2, .ref 8, .int, 138), (.aload_n 0, 150, 0, 0, .null, .int, 0), (.aload_n 0, 151, 0, 0, .null, .int, 0), (.aload_n 0, 152, 0, 0, .null, .int, 0), (.getfield 30, 155, 8, 15, .null, (.array .int), 21), (.iload_n 1, 156, 1, 0, .null, .int, 0), (.invokevirtual 325, 159, 144, 3, .ref 8, .int, 143), (.invokevirtual 375, 162, 142, 2, .ref 8, .int, 141), (.iinc 1 1, 165, 1, 0, .int (1), .int, 0), (.goto (-148), 168, 17, 0, .null, .int, 0)]
def k_7_168 : List Rw := [(.aload_n 0, 169, 0, 0, .null, .int, 0), (.ldc_w 385, 172, 0, 1, .ref 44, .int, 0), (.invokevirtual 380, 175, 145, 2, .ref 8, .int, 144), (.aload_n 0, 176, 0, 0, .null, .int, 0), (.aload_n 0, 177, 0, 0, .null, .int, 0), (.getfield 30, 180, 8, 15, .null, (.array .int), 21), (.bipush 8, 182, 0, 0, .int (8), .int, 0), (.iaload, 183, 0, 0, .null, .int, 0), (.invokevirtual 375, 186, 142, 2, .ref 8, .int, 141), (.aload_n 0, 187, 0, 0, .null, .int, 0), (.bipush 32, 189, 0, 0, .int (32), .int, 0), (.invokevirtual 366, 192, 139, 2, .ref 8, .int, 138), (.aload_n 0, 193, 0, 0, .null, .int, 0), (.aload_n 0, 194, 0, 0, .null, .int, 0), (.aload_n 0, 195, 0, 0, .null, .int, 0), (.getfield 30, 198, 8, 15, .null, (.array .int), 21), (.invokevirtual 338, 201, 146, 2, .ref 8, .int, 145), (.l2i, 202, 0, 0, .null, .int, 0), (.invokevirtual 375, 205, 142, 2, .ref 8, .int, 141), (.aload_n 0, 206, 0, 0, .null, .int, 0), (.getfield 363, 209, 8, 26, .null, .int, 28), (.ireturn, 210, 0, 0, .null, .int, 0)]
def bl_7 : List (Nat × List Rw × Nat) := [(0, k_7_0, 99999), (10, k_7_10, 17), (17, k_7_17, 38), (38, k_7_38, 99999), (168, k_7_168, 99999)]
set_option maxRecDepth 1000000 in
theorem ok_7 : bl_7.all (fun b => rowsB e_7 b.1 b.2.1 b.2.2) = true := by decide +kernel
-- FishGraderLaw.label (LFishGrader;I[J)I
abbrev e_8 : MIt := (⟨"FishGraderLaw", "label", "(LFishGrader;I[J)I"⟩, method_50_code, 4, (some .int), 6, 3, 0, 3)
def k_8_0 : List Rw := [(.aload_n 2, 1, 2, 0, .null, .int, 0), (.iconst 0, 2, 0, 0, .int (0), .int, 0), (.aload_n 0, 3, 0, 0, .null, .int, 0), (.iload_n 1, 4, 1, 0, .null, .int, 0), (.invokevirtual 165, 7, 147, 2, .ref 7, .int, 146), (.i2l, 8, 0, 0, .null, .int, 0), (.lastore, 9, 0, 0, .null, .int, 0), (.goto 9, 12, 18, 0, .null, .int, 0)]
def k_8_13 : List Rw := [(.iconst 1, 14, 0, 0, .int (1), .int, 0), (.ireturn, 15, 0, 0, .null, .int, 0)]
def k_8_16 : List Rw := [(.iconst 2, 17, 0, 0, .int (2), .int, 0), (.ireturn, 18, 0, 0, .null, .int, 0)]
def k_8_18 : List Rw := [(.iconst 0, 19, 0, 0, .int (0), .int, 0), (.ireturn, 20, 0, 0, .null, .int, 0)]
def bl_8 : List (Nat × List Rw × Nat) := [(0, k_8_0, 99999), (13, k_8_13, 99999), (16, k_8_16, 99999), (18, k_8_18, 99999)]
set_option maxRecDepth 1000000 in
theorem ok_8 : bl_8.all (fun b => rowsB e_8 b.1 b.2.1 b.2.2) = true := by decide +kernel
-- FishGraderModel.label (I)I
abbrev e_9 : MIt := (⟨"FishGraderModel", "label", "(I)I"⟩, prog_11_method_130_code, 2, (some .int), 3, 0, 8, 1)
def k_9_0 : List Rw := [(.aload_n 0, 1, 0, 0, .null, .int, 0), (.aload_n 0, 2, 0, 0, .null, .int, 0), (.iload_n 1, 3, 1, 0, .null, .int, 0), (.invokevirtual 299, 6, 148, 2, .ref 8, .int, 147), (.invokevirtual 288, 9, 138, 2, .ref 8, .int, 137), (.ifCond .ne 5, 12, 14, 0, .null, .int, 0), (.iconst 0, 13, 0, 0, .int (0), .int, 0), (.ireturn, 14, 0, 0, .null, .int, 0)]
def k_9_14 : List Rw := [(.aload_n 0, 15, 0, 0, .null, .int, 0), (.iconst 0, 16, 0, 0, .int (0), .int, 0), (.putfield 363, 19, 8, 26, .null, .int, 28), (.aload_n 0, 20, 0, 0, .null, .int, 0), (.aload_n 0, 21, 0, 0, .null, .int, 0), (.getfield 23, 24, 8, 13, .null, (.array .long), 19), (.aload_n 0, 25, 0, 0, .null, .int, 0), (.getfield 30, 28, 8, 15, .null, (.array .int), 21), (.sipush 688, 31, 0, 0, .int (688), .int, 0), (.iload_n 1, 32, 1, 0, .null, .int, 0), (.iadd, 33, 0, 0, .null, .int, 0), (.iaload, 34, 0, 0, .null, .int, 0), (.laload, 35, 0, 0, .null, .int, 0), (.invokevirtual 371, 38, 140, 2, .ref 8, .int, 139), (.aload_n 0, 39, 0, 0, .null, .int, 0), (.bipush 32, 41, 0, 0, .int (32), .int, 0), (.invokevirtual 366, 44, 139, 2, .ref 8, .int, 138), (.aload_n 0, 45, 0, 0, .null, .int, 0), (.aload_n 0, 46, 0, 0, .null, .int, 0), (.getfield 30, 49, 8, 15, .null, (.array .int), 21), (.sipush 768, 52, 0, 0, .int (768), .int, 0), (.iload_n 1, 53, 1, 0, .null, .int, 0), (.iadd, 54, 0, 0, .null, .int, 0), (.iaload, 55, 0, 0, .null, .int, 0), (.invokevirtual 375, 58, 142, 2, .ref 8, .int, 141), (.aload_n 0, 59, 0, 0, .null, .int, 0), (.bipush 43, 61, 0, 0, .int (43), .int, 0), (.invokevirtual 366, 64, 139, 2, .ref 8, .int, 138), (.aload_n 0, 65, 0, 0, .null, .int, 0), (.aload_n 0, 66, 0, 0, .null, .int, 0), (.getfield 30, 69, 8, 15, .null, (.array .int), 21), (.sipush 848, 72, 0, 0, .int (848), .int, 0), (.iload_n 1, 73, 1, 0, .null, .int, 0), (.iadd, 74, 0, 0, .null, .int, 0), (.iaload, 75, 0, 0, .null, .int, 0), (.invokevirtual 375, 78, 142, 2, .ref 8, .int, 141), (.aload_n 0, 79, 0, 0, .null, .int, 0), (.bipush 32, 81, 0, 0, .int (32), .int, 0), (.invokevirtual 366, 84, 139, 2, .ref 8, .int, 138), (.aload_n 0, 85, 0, 0, .null, .int, 0), (.getfield 30, 88, 8, 15, .null, (.array .int), 21), (.sipush 1088, 91, 0, 0, .int (1088), .int, 0), (.iload_n 1, 92, 1, 0, .null, .int, 0), (.iadd, 93, 0, 0, .null, .int, 0), (.iaload, 94, 0, 0, .null, .int, 0), (.iconst (-1), 95, 0, 0, .int (-1), .int, 0), (.if_icmp .ne 13, 98, 108, 0, .null, .int, 0), (.aload_n 0, 99, 0, 0, .null, .int, 0), (.ldc_w 378, 102, 0, 1, .ref 40, .int, 1), (.invokevirtual 380, 105, 145, 2, .ref 8, .int, 144), (.goto 24, 108, 129, 0, .null, .int, 0)]
def k_9_108 : List Rw := [(.aload_n 0, 109, 0, 0, .null, .int, 0), (.ldc_w 383, 112, 0, 1, .ref 42, .int, 2), (.invokevirtual 380, 115, 145, 2, .ref 8, .int, 144), (.aload_n 0, 116, 0, 0, .null, .int, 0), (.aload_n 0, 117, 0, 0, .null, .int, 0), (.getfield 30, 120, 8, 15, .null, (.array .int), 21), (.sipush 1088, 123, 0, 0, .int (1088), .int, 0), (.iload_n 1, 124, 1, 0, .null, .int, 0), (.iadd, 125, 0, 0, .null, .int, 0), (.iaload, 126, 0, 0, .null, .int, 0), (.invokevirtual 375, 129, 142, 2, .ref 8, .int, 141)]
def k_9_129 : List Rw := [(.aload_n 0, 130, 0, 0, .null, .int, 0), (.getfield 363, 133, 8, 26, .null, .int, 28), (.ireturn, 134, 0, 0, .null, .int, 0)]
def bl_9 : List (Nat × List Rw × Nat) := [(0, k_9_0, 99999), (14, k_9_14, 99999), (108, k_9_108, 129), (129, k_9_129, 99999)]
set_option maxRecDepth 1000000 in
theorem ok_9 : bl_9.all (fun b => rowsB e_9 b.1 b.2.1 b.2.2) = true := by decide +kernel
-- FishGraderLaw.restore (LFishGrader;[J)I
abbrev e_10 : MIt := (⟨"FishGraderLaw", "restore", "(LFishGrader;[J)I"⟩, method_49_code, 3, (some .int), 3, 3, 0, 2)
def k_10_0 : List Rw := [(.aload_n 1, 1, 1, 0, .null, .int, 0), (.iconst 0, 2, 0, 0, .int (0), .int, 0), (.aload_n 0, 3, 0, 0, .null, .int, 0), (.invokevirtual 162, 6, 149, 1, .ref 7, .int, 148), (.i2l, 7, 0, 0, .null, .int, 0), (.lastore, 8, 0, 0, .null, .int, 0), (.goto 6, 11, 14, 0, .null, .int, 0)]
def k_10_12 : List Rw := [(.iconst 1, 13, 0, 0, .int (1), .int, 0), (.ireturn, 14, 0, 0, .null, .int, 0)]
def k_10_14 : List Rw := [(.iconst 0, 15, 0, 0, .int (0), .int, 0), (.ireturn, 16, 0, 0, .null, .int, 0)]
def bl_10 : List (Nat × List Rw × Nat) := [(0, k_10_0, 99999), (12, k_10_12, 99999), (14, k_10_14, 99999)]
set_option maxRecDepth 1000000 in
theorem ok_10 : bl_10.all (fun b => rowsB e_10 b.1 b.2.1 b.2.2) = true := by decide +kernel
-- FishGraderModel.restore ()I
abbrev e_11 : MIt := (⟨"FishGraderModel", "restore", "()I"⟩, prog_11_method_125_code, 1, (some .int), 1, 0, 8, 0)
def k_11_0 : List Rw := [(.aload_n 0, 1, 0, 0, .null, .int, 0), (.aload_n 0, 2, 0, 0, .null, .int, 0), (.getfield 231, 5, 8, 22, .null, .boolean, 30), (.ifCond .eq 7, 8, 12, 0, .null, .int, 0), (.iconst 0, 9, 0, 0, .int (0), .int, 0), (.goto 4, 12, 13, 0, .null, .int, 0)]
def k_11_12 : List Rw := [(.iconst 1, 13, 0, 0, .int (1), .int, 0)]
def k_11_13 : List Rw := [(.putfield 51, 16, 8, 0, .null, .int, 29), (.aload_n 0, 17, 0, 0, .null, .int, 0), (.getfield 51, 20, 8, 0, .null, .int, 29), (.ifCond .le 5, 23, 25, 0, .null, .int, 0), (.iconst 0, 24, 0, 0, .int (0), .int, 0), (.ireturn, 25, 0, 0, .null, .int, 0)]
def k_11_25 : List Rw := [(.aload_n 0, 26, 0, 0, .null, .int, 0), (.getfield 42, 29, 8, 19, .null, (.array .int), 25), (.iconst 0, 30, 0, 0, .int (0), .int, 0), (.aload_n 0, 31, 0, 0, .null, .int, 0), (.getfield 30, 34, 8, 15, .null, (.array .int), 21), (.iconst 0, 35, 0, 0, .int (0), .int, 0), (.invokestatic 224, 38, 150, 4, .null, .int, 149), (.aload_n 0, 39, 0, 0, .null, .int, 0), (.iconst 0, 40, 0, 0, .int (0), .int, 0), (.putfield 234, 43, 8, 20, .null, .int, 31), (.aload_n 0, 44, 0, 0, .null, .int, 0), (.getfield 30, 47, 8, 15, .null, (.array .int), 21), (.iconst 0, 48, 0, 0, .int (0), .int, 0), (.iaload, 49, 0, 0, .null, .int, 0), (.ireturn, 50, 0, 0, .null, .int, 0)]
def bl_11 : List (Nat × List Rw × Nat) := [(0, k_11_0, 99999), (12, k_11_12, 13), (13, k_11_13, 99999), (25, k_11_25, 99999)]
set_option maxRecDepth 1000000 in
theorem ok_11 : bl_11.all (fun b => rowsB e_11 b.1 b.2.1 b.2.2) = true := by decide +kernel
-- FishGraderLaw.save (LFishGrader;[J)I
abbrev e_12 : MIt := (⟨"FishGraderLaw", "save", "(LFishGrader;[J)I"⟩, method_48_code, 3, (some .int), 3, 3, 0, 2)
def k_12_0 : List Rw := [(.aload_n 1, 1, 1, 0, .null, .int, 0), (.iconst 0, 2, 0, 0, .int (0), .int, 0), (.aload_n 0, 3, 0, 0, .null, .int, 0), (.invokevirtual 159, 6, 151, 1, .ref 7, .int, 150), (.i2l, 7, 0, 0, .null, .int, 0), (.lastore, 8, 0, 0, .null, .int, 0), (.goto 6, 11, 14, 0, .null, .int, 0)]
def k_12_12 : List Rw := [(.iconst 1, 13, 0, 0, .int (1), .int, 0), (.ireturn, 14, 0, 0, .null, .int, 0)]
def k_12_14 : List Rw := [(.iconst 0, 15, 0, 0, .int (0), .int, 0), (.ireturn, 16, 0, 0, .null, .int, 0)]
def bl_12 : List (Nat × List Rw × Nat) := [(0, k_12_0, 99999), (12, k_12_12, 99999), (14, k_12_14, 99999)]
set_option maxRecDepth 1000000 in
theorem ok_12 : bl_12.all (fun b => rowsB e_12 b.1 b.2.1 b.2.2) = true := by decide +kernel
-- FishGraderModel.save ()I
abbrev e_13 : MIt := (⟨"FishGraderModel", "save", "()I"⟩, prog_11_method_124_code, 1, (some .int), 1, 0, 8, 0)
def k_13_0 : List Rw := [(.aload_n 0, 1, 0, 0, .null, .int, 0), (.iconst 1, 2, 0, 0, .int (1), .int, 0), (.invokevirtual 288, 5, 138, 2, .ref 8, .int, 137), (.ifCond .ne 5, 8, 10, 0, .null, .int, 0), (.iconst 0, 9, 0, 0, .int (0), .int, 0), (.ireturn, 10, 0, 0, .null, .int, 0)]
def k_13_10 : List Rw := [(.aload_n 0, 11, 0, 0, .null, .int, 0), (.getfield 30, 14, 8, 15, .null, (.array .int), 21), (.iconst 0, 15, 0, 0, .int (0), .int, 0), (.aload_n 0, 16, 0, 0, .null, .int, 0), (.getfield 42, 19, 8, 19, .null, (.array .int), 25), (.iconst 0, 20, 0, 0, .int (0), .int, 0), (.invokestatic 224, 23, 150, 4, .null, .int, 149), (.aload_n 0, 24, 0, 0, .null, .int, 0), (.iconst 1, 25, 0, 0, .int (1), .int, 0), (.putfield 231, 28, 8, 22, .null, .boolean, 30), (.aload_n 0, 29, 0, 0, .null, .int, 0), (.getfield 30, 32, 8, 15, .null, (.array .int), 21), (.iconst 0, 33, 0, 0, .int (0), .int, 0), (.iaload, 34, 0, 0, .null, .int, 0), (.ireturn, 35, 0, 0, .null, .int, 0)]
def bl_13 : List (Nat × List Rw × Nat) := [(0, k_13_0, 99999), (10, k_13_10, 99999)]
set_option maxRecDepth 1000000 in
theorem ok_13 : bl_13.all (fun b => rowsB e_13 b.1 b.2.1 b.2.2) = true := by decide +kernel
-- FishGrader.undoable ()I
abbrev e_14 : MIt := (⟨"FishGrader", "undoable", "()I"⟩, prog_1_method_67_code, 1, (some .int), 0, 0, 7, 0)
def k_14_0 : List Rw := [(.aload_n 0, 1, 0, 0, .null, .int, 0), (.getfield 53, 4, 7, 11, .null, .int, 11), (.ireturn, 5, 0, 0, .null, .int, 0)]
def bl_14 : List (Nat × List Rw × Nat) := [(0, k_14_0, 99999)]
set_option maxRecDepth 1000000 in
theorem ok_14 : bl_14.all (fun b => rowsB e_14 b.1 b.2.1 b.2.2) = true := by decide +kernel
-- FishGraderModel.undoable ()I
abbrev e_15 : MIt := (⟨"FishGraderModel", "undoable", "()I"⟩, prog_11_method_123_code, 1, (some .int), 0, 0, 8, 0)
def k_15_0 : List Rw := [(.aload_n 0, 1, 0, 0, .null, .int, 0), (.iconst 0, 2, 0, 0, .int (0), .int, 0), (.putfield 51, 5, 8, 0, .null, .int, 29), (.aload_n 0, 6, 0, 0, .null, .int, 0), (.getfield 234, 9, 8, 20, .null, .int, 31), (.ireturn, 10, 0, 0, .null, .int, 0)]
def bl_15 : List (Nat × List Rw × Nat) := [(0, k_15_0, 99999)]
set_option maxRecDepth 1000000 in
theorem ok_15 : bl_15.all (fun b => rowsB e_15 b.1 b.2.1 b.2.2) = true := by decide +kernel
-- FishGraderLaw.undo (LFishGrader;[J)I
abbrev e_16 : MIt := (⟨"FishGraderLaw", "undo", "(LFishGrader;[J)I"⟩, method_47_code, 3, (some .int), 1, 3, 0, 2)
def k_16_0 : List Rw := [(.aload_n 1, 1, 1, 0, .null, .int, 0), (.iconst 0, 2, 0, 0, .int (0), .int, 0), (.aload_n 0, 3, 0, 0, .null, .int, 0), (.invokevirtual 156, 6, 152, 1, .ref 7, .int, 151), (.i2l, 7, 0, 0, .null, .int, 0), (.lastore, 8, 0, 0, .null, .int, 0), (.goto 6, 11, 14, 0, .null, .int, 0)]
def k_16_12 : List Rw := [(.iconst 1, 13, 0, 0, .int (1), .int, 0), (.ireturn, 14, 0, 0, .null, .int, 0)]
def k_16_14 : List Rw := [(.iconst 0, 15, 0, 0, .int (0), .int, 0), (.ireturn, 16, 0, 0, .null, .int, 0)]
def bl_16 : List (Nat × List Rw × Nat) := [(0, k_16_0, 99999), (12, k_16_12, 99999), (14, k_16_14, 99999)]
set_option maxRecDepth 1000000 in
theorem ok_16 : bl_16.all (fun b => rowsB e_16 b.1 b.2.1 b.2.2) = true := by decide +kernel
-- FishGraderModel.undo ()I
abbrev e_17 : MIt := (⟨"FishGraderModel", "undo", "()I"⟩, prog_11_method_122_code, 1, (some .int), 1, 0, 8, 0)
def k_17_0 : List Rw := [(.aload_n 0, 1, 0, 0, .null, .int, 0), (.aload_n 0, 2, 0, 0, .null, .int, 0), (.getfield 234, 5, 8, 20, .null, .int, 31), (.ifCond .ne 7, 8, 12, 0, .null, .int, 0), (.iconst 1, 9, 0, 0, .int (1), .int, 0), (.goto 4, 12, 13, 0, .null, .int, 0)]
def k_17_12 : List Rw := [(.iconst 0, 13, 0, 0, .int (0), .int, 0)]
def k_17_13 : List Rw := [(.putfield 51, 16, 8, 0, .null, .int, 29), (.aload_n 0, 17, 0, 0, .null, .int, 0), (.getfield 51, 20, 8, 0, .null, .int, 29), (.ifCond .le 5, 23, 25, 0, .null, .int, 0), (.iconst 0, 24, 0, 0, .int (0), .int, 0), (.ireturn, 25, 0, 0, .null, .int, 0)]
def k_17_25 : List Rw := [(.aload_n 0, 26, 0, 0, .null, .int, 0), (.dup, 27, 0, 0, .null, .int, 0), (.getfield 234, 30, 8, 20, .null, .int, 31), (.iconst 1, 31, 0, 0, .int (1), .int, 0), (.isub, 32, 0, 0, .null, .int, 0), (.putfield 234, 35, 8, 20, .null, .int, 31), (.aload_n 0, 36, 0, 0, .null, .int, 0), (.getfield 39, 39, 8, 18, .null, (.array .int), 24), (.sipush 1168, 42, 0, 0, .int (1168), .int, 0), (.aload_n 0, 43, 0, 0, .null, .int, 0), (.getfield 234, 46, 8, 20, .null, .int, 31), (.imul, 47, 0, 0, .null, .int, 0), (.aload_n 0, 48, 0, 0, .null, .int, 0), (.getfield 30, 51, 8, 15, .null, (.array .int), 21), (.iconst 0, 52, 0, 0, .int (0), .int, 0), (.invokestatic 224, 55, 150, 4, .null, .int, 149), (.aload_n 0, 56, 0, 0, .null, .int, 0), (.getfield 234, 59, 8, 20, .null, .int, 31), (.ireturn, 60, 0, 0, .null, .int, 0)]
def bl_17 : List (Nat × List Rw × Nat) := [(0, k_17_0, 99999), (12, k_17_12, 13), (13, k_17_13, 99999), (25, k_17_25, 99999)]
set_option maxRecDepth 1000000 in
theorem ok_17 : bl_17.all (fun b => rowsB e_17 b.1 b.2.1 b.2.2) = true := by decide +kernel
-- FishGraderLaw.moveQuota (LFishGrader;III[J)I
abbrev e_18 : MIt := (⟨"FishGraderLaw", "moveQuota", "(LFishGrader;III[J)I"⟩, method_46_code, 6, (some .int), 4, 3, 0, 5)
def k_18_0 : List Rw := [(.aload 4, 2, 4, 0, .null, .int, 0), (.iconst 0, 3, 0, 0, .int (0), .int, 0), (.aload_n 0, 4, 0, 0, .null, .int, 0), (.iload_n 1, 5, 1, 0, .null, .int, 0), (.iload_n 2, 6, 2, 0, .null, .int, 0), (.iload_n 3, 7, 3, 0, .null, .int, 0), (.invokevirtual 153, 10, 153, 4, .ref 7, .int, 152), (.i2l, 11, 0, 0, .null, .int, 0), (.lastore, 12, 0, 0, .null, .int, 0), (.goto 15, 15, 27, 0, .null, .int, 0)]
def k_18_17 : List Rw := [(.iconst 1, 18, 0, 0, .int (1), .int, 0), (.ireturn, 19, 0, 0, .null, .int, 0)]
def k_18_21 : List Rw := [(.iconst 2, 22, 0, 0, .int (2), .int, 0), (.ireturn, 23, 0, 0, .null, .int, 0)]
def k_18_25 : List Rw := [(.iconst 3, 26, 0, 0, .int (3), .int, 0), (.ireturn, 27, 0, 0, .null, .int, 0)]
def k_18_27 : List Rw := [(.iconst 0, 28, 0, 0, .int (0), .int, 0), (.ireturn, 29, 0, 0, .null, .int, 0)]
def bl_18 : List (Nat × List Rw × Nat) := [(0, k_18_0, 99999), (17, k_18_17, 99999), (21, k_18_21, 99999), (25, k_18_25, 99999), (27, k_18_27, 99999)]
set_option maxRecDepth 1000000 in
theorem ok_18 : bl_18.all (fun b => rowsB e_18 b.1 b.2.1 b.2.2) = true := by decide +kernel
-- FishGraderModel.moveQuota (III)I
abbrev e_19 : MIt := (⟨"FishGraderModel", "moveQuota", "(III)I"⟩, prog_11_method_121_code, 4, (some .int), 2, 0, 8, 3)
def k_19_0 : List Rw := [(.aload_n 0, 1, 0, 0, .null, .int, 0), (.aload_n 0, 2, 0, 0, .null, .int, 0), (.iload_n 1, 3, 1, 0, .null, .int, 0), (.invokevirtual 282, 6, 154, 2, .ref 8, .int, 153), (.ifCond .eq 15, 9, 21, 0, .null, .int, 0), (.aload_n 0, 10, 0, 0, .null, .int, 0), (.iload_n 2, 11, 2, 0, .null, .int, 0), (.invokevirtual 282, 14, 154, 2, .ref 8, .int, 153), (.ifCond .eq 7, 17, 21, 0, .null, .int, 0), (.iconst 1, 18, 0, 0, .int (1), .int, 0), (.goto 4, 21, 22, 0, .null, .int, 0)]
def k_19_21 : List Rw := [(.iconst 0, 22, 0, 0, .int (0), .int, 0)]
def k_19_22 : List Rw := [(.invokevirtual 288, 25, 138, 2, .ref 8, .int, 137), (.ifCond .ne 5, 28, 30, 0, .null, .int, 0), (.iconst 0, 29, 0, 0, .int (0), .int, 0), (.ireturn, 30, 0, 0, .null, .int, 0)]
def k_19_30 : List Rw := [(.iload_n 3, 31, 3, 0, .null, .int, 0), (.iconst 1, 32, 0, 0, .int (1), .int, 0), (.ldc 155, 34, 0, 0, .int (999999), .int, 0), (.invokestatic 84, 37, 136, 3, .null, .int, 135), (.ifCond .eq 13, 40, 50, 0, .null, .int, 0), (.aload_n 0, 41, 0, 0, .null, .int, 0), (.iload_n 1, 42, 1, 0, .null, .int, 0), (.iload_n 2, 43, 2, 0, .null, .int, 0), (.iload_n 3, 44, 3, 0, .null, .int, 0), (.invokevirtual 342, 47, 155, 4, .ref 8, .int, 154), (.ifCond .ne 9, 50, 56, 0, .null, .int, 0)]
def k_19_50 : List Rw := [(.aload_n 0, 51, 0, 0, .null, .int, 0), (.iconst 3, 52, 0, 0, .int (3), .int, 0), (.invokevirtual 218, 55, 156, 2, .ref 8, .int, 155), (.ireturn, 56, 0, 0, .null, .int, 0)]
def k_19_56 : List Rw := [(.aload_n 0, 57, 0, 0, .null, .int, 0), (.invokevirtual 354, 60, 157, 1, .ref 8, .int, 156), (.aload_n 0, 61, 0, 0, .null, .int, 0), (.getfield 30, 64, 8, 15, .null, (.array .int), 21), (.bipush 14, 66, 0, 0, .int (14), .int, 0), (.iload_n 1, 67, 1, 0, .null, .int, 0), (.iadd, 68, 0, 0, .null, .int, 0), (.dup2, 69, 0, 0, .null, .int, 0), (.iaload, 70, 0, 0, .null, .int, 0), (.iload_n 3, 71, 3, 0, .null, .int, 0), (.isub, 72, 0, 0, .null, .int, 0), (.iastore, 73, 0, 0, .null, .int, 0), (.aload_n 0, 74, 0, 0, .null, .int, 0), (.getfield 30, 77, 8, 15, .null, (.array .int), 21), (.bipush 14, 79, 0, 0, .int (14), .int, 0), (.iload_n 2, 80, 2, 0, .null, .int, 0), (.iadd, 81, 0, 0, .null, .int, 0), (.dup2, 82, 0, 0, .null, .int, 0), (.iaload, 83, 0, 0, .null, .int, 0), (.iload_n 3, 84, 3, 0, .null, .int, 0), (.iadd, 85, 0, 0, .null, .int, 0), (.iastore, 86, 0, 0, .null, .int, 0), (.aload_n 0, 87, 0, 0, .null, .int, 0), (.getfield 30, 90, 8, 15, .null, (.array .int), 21), (.bipush 14, 92, 0, 0, .int (14), .int, 0), (.iload_n 1, 93, 1, 0, .null, .int, 0), (.iadd, 94, 0, 0, .null, .int, 0), (.iaload, 95, 0, 0, .null, .int, 0), (.ireturn, 96, 0, 0, .null, .int, 0)]
def bl_19 : List (Nat × List Rw × Nat) := [(0, k_19_0, 99999), (21, k_19_21, 22), (22, k_19_22, 99999), (30, k_19_30, 50), (50, k_19_50, 99999), (56, k_19_56, 99999)]
set_option maxRecDepth 1000000 in
theorem ok_19 : bl_19.all (fun b => rowsB e_19 b.1 b.2.1 b.2.2) = true := by decide +kernel
-- FishGraderLaw.setTarget (LFishGrader;II[J)I
abbrev e_20 : MIt := (⟨"FishGraderLaw", "setTarget", "(LFishGrader;II[J)I"⟩, method_45_code, 5, (some .int), 4, 3, 0, 4)
def k_20_0 : List Rw := [(.aload_n 3, 1, 3, 0, .null, .int, 0), (.iconst 0, 2, 0, 0, .int (0), .int, 0), (.aload_n 0, 3, 0, 0, .null, .int, 0), (.iload_n 1, 4, 1, 0, .null, .int, 0), (.iload_n 2, 5, 2, 0, .null, .int, 0), (.invokevirtual 150, 8, 158, 3, .ref 7, .int, 157), (.i2l, 9, 0, 0, .null, .int, 0), (.lastore, 10, 0, 0, .null, .int, 0), (.goto 15, 13, 25, 0, .null, .int, 0)]
def k_20_15 : List Rw := [(.iconst 1, 16, 0, 0, .int (1), .int, 0), (.ireturn, 17, 0, 0, .null, .int, 0)]
def k_20_19 : List Rw := [(.iconst 2, 20, 0, 0, .int (2), .int, 0), (.ireturn, 21, 0, 0, .null, .int, 0)]
def k_20_23 : List Rw := [(.iconst 3, 24, 0, 0, .int (3), .int, 0), (.ireturn, 25, 0, 0, .null, .int, 0)]
def k_20_25 : List Rw := [(.iconst 0, 26, 0, 0, .int (0), .int, 0), (.ireturn, 27, 0, 0, .null, .int, 0)]
def bl_20 : List (Nat × List Rw × Nat) := [(0, k_20_0, 99999), (15, k_20_15, 99999), (19, k_20_19, 99999), (23, k_20_23, 99999), (25, k_20_25, 99999)]
set_option maxRecDepth 1000000 in
theorem ok_20 : bl_20.all (fun b => rowsB e_20 b.1 b.2.1 b.2.2) = true := by decide +kernel
-- FishGraderModel.setTarget (II)I
abbrev e_21 : MIt := (⟨"FishGraderModel", "setTarget", "(II)I"⟩, prog_11_method_120_code, 3, (some .int), 3, 0, 8, 2)
def k_21_0 : List Rw := [(.aload_n 0, 1, 0, 0, .null, .int, 0), (.aload_n 0, 2, 0, 0, .null, .int, 0), (.iload_n 1, 3, 1, 0, .null, .int, 0), (.invokevirtual 282, 6, 154, 2, .ref 8, .int, 153), (.invokevirtual 288, 9, 138, 2, .ref 8, .int, 137), (.ifCond .ne 5, 12, 14, 0, .null, .int, 0), (.iconst 0, 13, 0, 0, .int (0), .int, 0), (.ireturn, 14, 0, 0, .null, .int, 0)]
def k_21_14 : List Rw := [(.iload_n 2, 15, 2, 0, .null, .int, 0), (.iconst 1, 16, 0, 0, .int (1), .int, 0), (.sipush 30000, 19, 0, 0, .int (30000), .int, 0), (.invokestatic 84, 22, 136, 3, .null, .int, 135), (.ifCond .eq 15, 25, 37, 0, .null, .int, 0), (.aload_n 0, 26, 0, 0, .null, .int, 0), (.bipush 10, 28, 0, 0, .int (10), .int, 0), (.iload_n 1, 29, 1, 0, .null, .int, 0), (.iadd, 30, 0, 0, .null, .int, 0), (.iload_n 2, 31, 2, 0, .null, .int, 0), (.invokevirtual 360, 34, 159, 3, .ref 8, .int, 158), (.goto 8, 37, 42, 0, .null, .int, 0)]
def k_21_37 : List Rw := [(.aload_n 0, 38, 0, 0, .null, .int, 0), (.iconst 3, 39, 0, 0, .int (3), .int, 0), (.invokevirtual 218, 42, 156, 2, .ref 8, .int, 155)]
def k_21_42 : List Rw := [(.ireturn, 43, 0, 0, .null, .int, 0)]
def bl_21 : List (Nat × List Rw × Nat) := [(0, k_21_0, 99999), (14, k_21_14, 99999), (37, k_21_37, 42), (42, k_21_42, 99999)]
set_option maxRecDepth 1000000 in
theorem ok_21 : bl_21.all (fun b => rowsB e_21 b.1 b.2.1 b.2.2) = true := by decide +kernel
-- FishGraderLaw.setLimit (LFishGrader;I[J)I
abbrev e_22 : MIt := (⟨"FishGraderLaw", "setLimit", "(LFishGrader;I[J)I"⟩, method_44_code, 4, (some .int), 4, 3, 0, 3)
def k_22_0 : List Rw := [(.aload_n 2, 1, 2, 0, .null, .int, 0), (.iconst 0, 2, 0, 0, .int (0), .int, 0), (.aload_n 0, 3, 0, 0, .null, .int, 0), (.iload_n 1, 4, 1, 0, .null, .int, 0), (.invokevirtual 147, 7, 160, 2, .ref 7, .int, 159), (.i2l, 8, 0, 0, .null, .int, 0), (.lastore, 9, 0, 0, .null, .int, 0), (.goto 9, 12, 18, 0, .null, .int, 0)]
def k_22_13 : List Rw := [(.iconst 1, 14, 0, 0, .int (1), .int, 0), (.ireturn, 15, 0, 0, .null, .int, 0)]
def k_22_16 : List Rw := [(.iconst 2, 17, 0, 0, .int (2), .int, 0), (.ireturn, 18, 0, 0, .null, .int, 0)]
def k_22_18 : List Rw := [(.iconst 0, 19, 0, 0, .int (0), .int, 0), (.ireturn, 20, 0, 0, .null, .int, 0)]
def bl_22 : List (Nat × List Rw × Nat) := [(0, k_22_0, 99999), (13, k_22_13, 99999), (16, k_22_16, 99999), (18, k_22_18, 99999)]
set_option maxRecDepth 1000000 in
theorem ok_22 : bl_22.all (fun b => rowsB e_22 b.1 b.2.1 b.2.2) = true := by decide +kernel
-- FishGraderModel.setLimit (I)I
abbrev e_23 : MIt := (⟨"FishGraderModel", "setLimit", "(I)I"⟩, prog_11_method_119_code, 2, (some .int), 3, 0, 8, 1)
def k_23_0 : List Rw := [(.aload_n 0, 1, 0, 0, .null, .int, 0), (.iconst 1, 2, 0, 0, .int (1), .int, 0), (.invokevirtual 288, 5, 138, 2, .ref 8, .int, 137), (.ifCond .ne 5, 8, 10, 0, .null, .int, 0), (.iconst 0, 9, 0, 0, .int (0), .int, 0), (.ireturn, 10, 0, 0, .null, .int, 0)]
def k_23_10 : List Rw := [(.iload_n 1, 11, 1, 0, .null, .int, 0), (.iconst 0, 12, 0, 0, .int (0), .int, 0), (.sipush 9999, 15, 0, 0, .int (9999), .int, 0), (.invokestatic 84, 18, 136, 3, .null, .int, 135), (.ifCond .eq 12, 21, 30, 0, .null, .int, 0), (.aload_n 0, 22, 0, 0, .null, .int, 0), (.iconst 2, 23, 0, 0, .int (2), .int, 0), (.iload_n 1, 24, 1, 0, .null, .int, 0), (.invokevirtual 360, 27, 159, 3, .ref 8, .int, 158), (.goto 8, 30, 35, 0, .null, .int, 0)]
def k_23_30 : List Rw := [(.aload_n 0, 31, 0, 0, .null, .int, 0), (.iconst 2, 32, 0, 0, .int (2), .int, 0), (.invokevirtual 218, 35, 156, 2, .ref 8, .int, 155)]
def k_23_35 : List Rw := [(.ireturn, 36, 0, 0, .null, .int, 0)]
def bl_23 : List (Nat × List Rw × Nat) := [(0, k_23_0, 99999), (10, k_23_10, 99999), (30, k_23_30, 35), (35, k_23_35, 99999)]
set_option maxRecDepth 1000000 in
theorem ok_23 : bl_23.all (fun b => rowsB e_23 b.1 b.2.1 b.2.2) = true := by decide +kernel
-- FishGraderLaw.setRule (LFishGrader;I[J)I
abbrev e_24 : MIt := (⟨"FishGraderLaw", "setRule", "(LFishGrader;I[J)I"⟩, method_43_code, 4, (some .int), 4, 3, 0, 3)
def k_24_0 : List Rw := [(.aload_n 2, 1, 2, 0, .null, .int, 0), (.iconst 0, 2, 0, 0, .int (0), .int, 0), (.aload_n 0, 3, 0, 0, .null, .int, 0), (.iload_n 1, 4, 1, 0, .null, .int, 0), (.invokevirtual 144, 7, 161, 2, .ref 7, .int, 160), (.i2l, 8, 0, 0, .null, .int, 0), (.lastore, 9, 0, 0, .null, .int, 0), (.goto 9, 12, 18, 0, .null, .int, 0)]
def k_24_13 : List Rw := [(.iconst 1, 14, 0, 0, .int (1), .int, 0), (.ireturn, 15, 0, 0, .null, .int, 0)]
def k_24_16 : List Rw := [(.iconst 2, 17, 0, 0, .int (2), .int, 0), (.ireturn, 18, 0, 0, .null, .int, 0)]
def k_24_18 : List Rw := [(.iconst 0, 19, 0, 0, .int (0), .int, 0), (.ireturn, 20, 0, 0, .null, .int, 0)]
def bl_24 : List (Nat × List Rw × Nat) := [(0, k_24_0, 99999), (13, k_24_13, 99999), (16, k_24_16, 99999), (18, k_24_18, 99999)]
set_option maxRecDepth 1000000 in
theorem ok_24 : bl_24.all (fun b => rowsB e_24 b.1 b.2.1 b.2.2) = true := by decide +kernel
-- FishGraderModel.setRule (I)I
abbrev e_25 : MIt := (⟨"FishGraderModel", "setRule", "(I)I"⟩, prog_11_method_118_code, 2, (some .int), 3, 0, 8, 1)
def k_25_0 : List Rw := [(.aload_n 0, 1, 0, 0, .null, .int, 0), (.iconst 1, 2, 0, 0, .int (1), .int, 0), (.invokevirtual 288, 5, 138, 2, .ref 8, .int, 137), (.ifCond .ne 5, 8, 10, 0, .null, .int, 0), (.iconst 0, 9, 0, 0, .int (0), .int, 0), (.ireturn, 10, 0, 0, .null, .int, 0)]
def k_25_10 : List Rw := [(.iload_n 1, 11, 1, 0, .null, .int, 0), (.iconst 0, 12, 0, 0, .int (0), .int, 0), (.iconst 2, 13, 0, 0, .int (2), .int, 0), (.invokestatic 84, 16, 136, 3, .null, .int, 135), (.ifCond .eq 12, 19, 28, 0, .null, .int, 0), (.aload_n 0, 20, 0, 0, .null, .int, 0), (.iconst 1, 21, 0, 0, .int (1), .int, 0), (.iload_n 1, 22, 1, 0, .null, .int, 0), (.invokevirtual 360, 25, 159, 3, .ref 8, .int, 158), (.goto 8, 28, 33, 0, .null, .int, 0)]
def k_25_28 : List Rw := [(.aload_n 0, 29, 0, 0, .null, .int, 0), (.iconst 2, 30, 0, 0, .int (2), .int, 0), (.invokevirtual 218, 33, 156, 2, .ref 8, .int, 155)]
def k_25_33 : List Rw := [(.ireturn, 34, 0, 0, .null, .int, 0)]
def bl_25 : List (Nat × List Rw × Nat) := [(0, k_25_0, 99999), (10, k_25_10, 99999), (28, k_25_28, 33), (33, k_25_33, 99999)]
set_option maxRecDepth 1000000 in
theorem ok_25 : bl_25.all (fun b => rowsB e_25 b.1 b.2.1 b.2.2) = true := by decide +kernel
-- FishGraderLaw.addItem (LFishGrader;IIII[J)I
abbrev e_26 : MIt := (⟨"FishGraderLaw", "addItem", "(LFishGrader;IIII[J)I"⟩, method_42_code, 7, (some .int), 5, 3, 0, 6)
def k_26_0 : List Rw := [(.aload 5, 2, 5, 0, .null, .int, 0), (.iconst 0, 3, 0, 0, .int (0), .int, 0), (.aload_n 0, 4, 0, 0, .null, .int, 0), (.iload_n 1, 5, 1, 0, .null, .int, 0), (.iload_n 2, 6, 2, 0, .null, .int, 0), (.iload_n 3, 7, 3, 0, .null, .int, 0), (.iload 4, 9, 4, 0, .null, .int, 0), (.invokevirtual 140, 12, 162, 5, .ref 7, .int, 161), (.i2l, 13, 0, 0, .null, .int, 0), (.lastore, 14, 0, 0, .null, .int, 0), (.goto 15, 17, 29, 0, .null, .int, 0)]
def k_26_19 : List Rw := [(.iconst 1, 20, 0, 0, .int (1), .int, 0), (.ireturn, 21, 0, 0, .null, .int, 0)]
def k_26_23 : List Rw := [(.iconst 2, 24, 0, 0, .int (2), .int, 0), (.ireturn, 25, 0, 0, .null, .int, 0)]
def k_26_27 : List Rw := [(.iconst 3, 28, 0, 0, .int (3), .int, 0), (.ireturn, 29, 0, 0, .null, .int, 0)]
def k_26_29 : List Rw := [(.iconst 0, 30, 0, 0, .int (0), .int, 0), (.ireturn, 31, 0, 0, .null, .int, 0)]
def bl_26 : List (Nat × List Rw × Nat) := [(0, k_26_0, 99999), (19, k_26_19, 99999), (23, k_26_23, 99999), (27, k_26_27, 99999), (29, k_26_29, 99999)]
set_option maxRecDepth 1000000 in
theorem ok_26 : bl_26.all (fun b => rowsB e_26 b.1 b.2.1 b.2.2) = true := by decide +kernel
-- FishGraderModel.addItem (IIII)I
abbrev e_27 : MIt := (⟨"FishGraderModel", "addItem", "(IIII)I"⟩, prog_11_method_116_code, 7, (some .int), 3, 0, 8, 4)
def k_27_0 : List Rw := [(.aload_n 0, 1, 0, 0, .null, .int, 0), (.aload_n 0, 2, 0, 0, .null, .int, 0), (.iload_n 3, 3, 3, 0, .null, .int, 0), (.invokevirtual 282, 6, 154, 2, .ref 8, .int, 153), (.invokevirtual 288, 9, 138, 2, .ref 8, .int, 137), (.ifCond .ne 5, 12, 14, 0, .null, .int, 0), (.iconst 0, 13, 0, 0, .int (0), .int, 0), (.ireturn, 14, 0, 0, .null, .int, 0)]
def k_27_14 : List Rw := [(.iload_n 1, 15, 1, 0, .null, .int, 0), (.iconst 0, 16, 0, 0, .int (0), .int, 0), (.sipush 20000, 19, 0, 0, .int (20000), .int, 0), (.invokestatic 84, 22, 136, 3, .null, .int, 135), (.ifCond .eq 25, 25, 47, 0, .null, .int, 0), (.iload_n 2, 26, 2, 0, .null, .int, 0), (.iconst 1, 27, 0, 0, .int (1), .int, 0), (.sipush 9999, 30, 0, 0, .int (9999), .int, 0), (.invokestatic 84, 33, 136, 3, .null, .int, 135), (.ifCond .eq 14, 36, 47, 0, .null, .int, 0), (.iload 4, 38, 4, 0, .null, .int, 0), (.iconst 1, 39, 0, 0, .int (1), .int, 0), (.bipush 99, 41, 0, 0, .int (99), .int, 0), (.invokestatic 84, 44, 136, 3, .null, .int, 135), (.ifCond .ne 9, 47, 53, 0, .null, .int, 0)]
def k_27_47 : List Rw := [(.aload_n 0, 48, 0, 0, .null, .int, 0), (.iconst 3, 49, 0, 0, .int (3), .int, 0), (.invokevirtual 218, 52, 156, 2, .ref 8, .int, 155), (.ireturn, 53, 0, 0, .null, .int, 0)]
def k_27_53 : List Rw := [(.aload_n 0, 54, 0, 0, .null, .int, 0), (.getfield 30, 57, 8, 15, .null, (.array .int), 21), (.bipush 9, 59, 0, 0, .int (9), .int, 0), (.iaload, 60, 0, 0, .null, .int, 0), (.istore 5, 62, 5, 0, .null, .int, 0), (.iload 5, 64, 5, 0, .null, .int, 0), (.bipush 80, 66, 0, 0, .int (80), .int, 0), (.if_icmp .ne 9, 69, 75, 0, .null, .int, 0), (.aload_n 0, 70, 0, 0, .null, .int, 0), (.iconst 1, 71, 0, 0, .int (1), .int, 0), (.invokevirtual 218, 74, 156, 2, .ref 8, .int, 155), (.ireturn, 75, 0, 0, .null, .int, 0)]
def k_27_75 : List Rw := [(.aload_n 0, 76, 0, 0, .null, .int, 0), (.invokevirtual 354, 79, 157, 1, .ref 8, .int, 156), (.aload_n 0, 80, 0, 0, .null, .int, 0), (.getfield 30, 83, 8, 15, .null, (.array .int), 21), (.sipush 208, 86, 0, 0, .int (208), .int, 0), (.iload 5, 88, 5, 0, .null, .int, 0), (.iadd, 89, 0, 0, .null, .int, 0), (.iload_n 1, 90, 1, 0, .null, .int, 0), (.i2l, 91, 0, 0, .null, .int, 0), (.iload_n 2, 92, 2, 0, .null, .int, 0), (.i2l, 93, 0, 0, .null, .int, 0), (.aload_n 0, 94, 0, 0, .null, .int, 0), (.getfield 17, 97, 8, 11, .null, (.array .int), 17), (.iconst 0, 98, 0, 0, .int (0), .int, 0), (.iaload, 99, 0, 0, .null, .int, 0), (.invokestatic 174, 102, 163, 3, .null, .int, 162), (.iastore, 103, 0, 0, .null, .int, 0), (.iconst 0, 104, 0, 0, .int (0), .int, 0), (.istore 6, 106, 6, 0, .null, .int, 0)]
def k_27_106 : List Rw := [(.iload 6, 108, 6, 0, .null, .int, 0), (.iconst 4, 109, 0, 0, .int (4), .int, 0), (.if_icmp .ge 37, 112, 146, 0, .null, .int, 0), (.aload_n 0, 113, 0, 0, .null, .int, 0), (.getfield 30, 116, 8, 15, .null, (.array .int), 21), (.sipush 368, 119, 0, 0, .int (368), .int, 0), (.iconst 4, 120, 0, 0, .int (4), .int, 0), (.iload 5, 122, 5, 0, .null, .int, 0), (.imul, 123, 0, 0, .null, .int, 0), (.iadd, 124, 0, 0, .null, .int, 0), (.iload 6, 126, 6, 0, .null, .int, 0), (.iadd, 127, 0, 0, .null, .int, 0), (.iload 6, 129, 6, 0, .null, .int, 0), (.iload_n 3, 130, 3, 0, .null, .int, 0), (.if_icmp .ne 8, 133, 138, 0, .null, .int, 0), (.iload 4, 135, 4, 0, .null, .int, 0), (.goto 4, 138, 139, 0, .null, .int, 0)]
def k_27_138 : List Rw := [(.iconst 0, 139, 0, 0, .int (0), .int, 0)]
def k_27_139 : List Rw := [(.iastore, 140, 0, 0, .null, .int, 0), (.iinc 6 1, 143, 6, 0, .int (1), .int, 0), (.goto (-37), 146, 106, 0, .null, .int, 0)]
def k_27_146 : List Rw := [(.aload_n 0, 147, 0, 0, .null, .int, 0), (.getfield 30, 150, 8, 15, .null, (.array .int), 21), (.sipush 288, 153, 0, 0, .int (288), .int, 0), (.iload 5, 155, 5, 0, .null, .int, 0), (.iadd, 156, 0, 0, .null, .int, 0), (.aload_n 0, 157, 0, 0, .null, .int, 0), (.getfield 30, 160, 8, 15, .null, (.array .int), 21), (.iload 5, 162, 5, 0, .null, .int, 0), (.aload_n 0, 163, 0, 0, .null, .int, 0), (.getfield 17, 166, 8, 11, .null, (.array .int), 17), (.invokestatic 214, 169, 164, 3, .null, .int, 163), (.iastore, 170, 0, 0, .null, .int, 0), (.aload_n 0, 171, 0, 0, .null, .int, 0), (.getfield 30, 174, 8, 15, .null, (.array .int), 21), (.bipush 48, 176, 0, 0, .int (48), .int, 0), (.iload 5, 178, 5, 0, .null, .int, 0), (.iadd, 179, 0, 0, .null, .int, 0), (.iconst 0, 180, 0, 0, .int (0), .int, 0), (.iastore, 181, 0, 0, .null, .int, 0), (.aload_n 0, 182, 0, 0, .null, .int, 0), (.getfield 30, 185, 8, 15, .null, (.array .int), 21), (.sipush 128, 188, 0, 0, .int (128), .int, 0), (.iload 5, 190, 5, 0, .null, .int, 0), (.iadd, 191, 0, 0, .null, .int, 0), (.iconst (-1), 192, 0, 0, .int (-1), .int, 0), (.iastore, 193, 0, 0, .null, .int, 0), (.aload_n 0, 194, 0, 0, .null, .int, 0), (.getfield 30, 197, 8, 15, .null, (.array .int), 21), (.bipush 9, 199, 0, 0, .int (9), .int, 0), (.dup2, 200, 0, 0, .null, .int, 0), (.iaload, 201, 0, 0, .null, .int, 0), (.iconst 1, 202, 0, 0, .int (1), .int, 0), (.iadd, 203, 0, 0, .null, .int, 0), (.iastore, 204, 0, 0, .null, .int, 0), (.iload 5, 206, 5, 0, .null, .int, 0), (.ireturn, 207, 0, 0, .null, .int, 0)]
def bl_27 : List (Nat × List Rw × Nat) := [(0, k_27_0, 99999), (14, k_27_14, 47), (47, k_27_47, 99999), (53, k_27_53, 99999), (75, k_27_75, 106), (106, k_27_106, 99999), (138, k_27_138, 139), (139, k_27_139, 99999), (146, k_27_146, 99999)]
set_option maxRecDepth 1000000 in
theorem ok_27 : bl_27.all (fun b => rowsB e_27 b.1 b.2.1 b.2.2) = true := by decide +kernel
-- FishGraderLaw.release (LFishGrader;II[J)I
abbrev e_28 : MIt := (⟨"FishGraderLaw", "release", "(LFishGrader;II[J)I"⟩, method_41_code, 5, (some .int), 4, 3, 0, 4)
def k_28_0 : List Rw := [(.aload_n 3, 1, 3, 0, .null, .int, 0), (.iconst 0, 2, 0, 0, .int (0), .int, 0), (.aload_n 0, 3, 0, 0, .null, .int, 0), (.iload_n 1, 4, 1, 0, .null, .int, 0), (.iload_n 2, 5, 2, 0, .null, .int, 0), (.invokevirtual 137, 8, 165, 3, .ref 7, .int, 164), (.i2l, 9, 0, 0, .null, .int, 0), (.lastore, 10, 0, 0, .null, .int, 0), (.goto 11, 13, 21, 0, .null, .int, 0)]
def k_28_15 : List Rw := [(.iconst 1, 16, 0, 0, .int (1), .int, 0), (.ireturn, 17, 0, 0, .null, .int, 0)]
def k_28_19 : List Rw := [(.iconst 2, 20, 0, 0, .int (2), .int, 0), (.ireturn, 21, 0, 0, .null, .int, 0)]
def k_28_21 : List Rw := [(.iconst 0, 22, 0, 0, .int (0), .int, 0), (.ireturn, 23, 0, 0, .null, .int, 0)]
def bl_28 : List (Nat × List Rw × Nat) := [(0, k_28_0, 99999), (15, k_28_15, 99999), (19, k_28_19, 99999), (21, k_28_21, 99999)]
set_option maxRecDepth 1000000 in
theorem ok_28 : bl_28.all (fun b => rowsB e_28 b.1 b.2.1 b.2.2) = true := by decide +kernel
-- FishGraderModel.release (II)I
abbrev e_29 : MIt := (⟨"FishGraderModel", "release", "(II)I"⟩, prog_11_method_115_code, 4, (some .int), 3, 0, 8, 2)
def k_29_0 : List Rw := [(.aload_n 0, 1, 0, 0, .null, .int, 0), (.iload_n 1, 2, 1, 0, .null, .int, 0), (.iconst 0, 3, 0, 0, .int (0), .int, 0), (.aload_n 0, 4, 0, 0, .null, .int, 0), (.getfield 30, 7, 8, 15, .null, (.array .int), 21), (.bipush 7, 9, 0, 0, .int (7), .int, 0), (.iaload, 10, 0, 0, .null, .int, 0), (.iconst 1, 11, 0, 0, .int (1), .int, 0), (.isub, 12, 0, 0, .null, .int, 0), (.invokestatic 84, 15, 136, 3, .null, .int, 135), (.ifCond .eq 33, 18, 48, 0, .null, .int, 0), (.aload_n 0, 19, 0, 0, .null, .int, 0), (.aload_n 0, 20, 0, 0, .null, .int, 0), (.getfield 30, 23, 8, 15, .null, (.array .int), 21), (.sipush 288, 26, 0, 0, .int (288), .int, 0), (.aload_n 0, 27, 0, 0, .null, .int, 0), (.getfield 30, 30, 8, 15, .null, (.array .int), 21), (.bipush 38, 32, 0, 0, .int (38), .int, 0), (.iload_n 1, 33, 1, 0, .null, .int, 0), (.iadd, 34, 0, 0, .null, .int, 0), (.iaload, 35, 0, 0, .null, .int, 0), (.iadd, 36, 0, 0, .null, .int, 0), (.iaload, 37, 0, 0, .null, .int, 0), (.iload_n 2, 38, 2, 0, .null, .int, 0), (.invokevirtual 295, 41, 166, 3, .ref 8, .int, 165), (.ifCond .eq 7, 44, 48, 0, .null, .int, 0), (.iconst 1, 45, 0, 0, .int (1), .int, 0), (.goto 4, 48, 49, 0, .null, .int, 0)]
def k_29_48 : List Rw := [(.iconst 0, 49, 0, 0, .int (0), .int, 0)]
def k_29_49 : List Rw := [(.invokevirtual 288, 52, 138, 2, .ref 8, .int, 137), (.ifCond .ne 5, 55, 57, 0, .null, .int, 0), (.iconst 0, 56, 0, 0, .int (0), .int, 0), (.ireturn, 57, 0, 0, .null, .int, 0)]
def k_29_57 : List Rw := [(.aload_n 0, 58, 0, 0, .null, .int, 0), (.invokevirtual 354, 61, 157, 1, .ref 8, .int, 156), (.aload_n 0, 62, 0, 0, .null, .int, 0), (.aload_n 0, 63, 0, 0, .null, .int, 0), (.getfield 30, 66, 8, 15, .null, (.array .int), 21), (.aload_n 0, 67, 0, 0, .null, .int, 0), (.iload_n 1, 68, 1, 0, .null, .int, 0), (.invokevirtual 357, 71, 167, 2, .ref 8, .int, 166), (.iload_n 2, 72, 2, 0, .null, .int, 0), (.invokevirtual 260, 75, 168, 4, .ref 8, .int, 167), (.istore_n 3, 76, 3, 0, .null, .int, 0), (.iload_n 3, 77, 3, 0, .null, .int, 0), (.iconst (-1), 78, 0, 0, .int (-1), .int, 0), (.if_icmp .ne 7, 81, 85, 0, .null, .int, 0), (.iconst (-1), 82, 0, 0, .int (-1), .int, 0), (.goto 13, 85, 95, 0, .null, .int, 0)]
def k_29_85 : List Rw := [(.aload_n 0, 86, 0, 0, .null, .int, 0), (.getfield 30, 89, 8, 15, .null, (.array .int), 21), (.sipush 848, 92, 0, 0, .int (848), .int, 0), (.iload_n 3, 93, 3, 0, .null, .int, 0), (.iadd, 94, 0, 0, .null, .int, 0), (.iaload, 95, 0, 0, .null, .int, 0)]
def k_29_95 : List Rw := [(.ireturn, 96, 0, 0, .null, .int, 0)]
def bl_29 : List (Nat × List Rw × Nat) := [(0, k_29_0, 99999), (48, k_29_48, 49), (49, k_29_49, 99999), (57, k_29_57, 99999), (85, k_29_85, 95), (95, k_29_95, 99999)]
set_option maxRecDepth 1000000 in
theorem ok_29 : bl_29.all (fun b => rowsB e_29 b.1 b.2.1 b.2.2) = true := by decide +kernel
-- FishGraderLaw.combine (LFishGrader;II[J)I
abbrev e_30 : MIt := (⟨"FishGraderLaw", "combine", "(LFishGrader;II[J)I"⟩, method_40_code, 5, (some .int), 5, 3, 0, 4)
def k_30_0 : List Rw := [(.aload_n 3, 1, 3, 0, .null, .int, 0), (.iconst 0, 2, 0, 0, .int (0), .int, 0), (.aload_n 0, 3, 0, 0, .null, .int, 0), (.iload_n 1, 4, 1, 0, .null, .int, 0), (.iload_n 2, 5, 2, 0, .null, .int, 0), (.invokevirtual 132, 8, 169, 3, .ref 7, .int, 168), (.i2l, 9, 0, 0, .null, .int, 0), (.lastore, 10, 0, 0, .null, .int, 0), (.goto 15, 13, 25, 0, .null, .int, 0)]
def k_30_15 : List Rw := [(.iconst 1, 16, 0, 0, .int (1), .int, 0), (.ireturn, 17, 0, 0, .null, .int, 0)]
def k_30_19 : List Rw := [(.iconst 2, 20, 0, 0, .int (2), .int, 0), (.ireturn, 21, 0, 0, .null, .int, 0)]
def k_30_23 : List Rw := [(.iconst 3, 24, 0, 0, .int (3), .int, 0), (.ireturn, 25, 0, 0, .null, .int, 0)]
def k_30_25 : List Rw := [(.iconst 0, 26, 0, 0, .int (0), .int, 0), (.ireturn, 27, 0, 0, .null, .int, 0)]
def bl_30 : List (Nat × List Rw × Nat) := [(0, k_30_0, 99999), (15, k_30_15, 99999), (19, k_30_19, 99999), (23, k_30_23, 99999), (25, k_30_25, 99999)]
set_option maxRecDepth 1000000 in
theorem ok_30 : bl_30.all (fun b => rowsB e_30 b.1 b.2.1 b.2.2) = true := by decide +kernel
-- FishGraderModel.combine (II)I
abbrev e_31 : MIt := (⟨"FishGraderModel", "combine", "(II)I"⟩, prog_11_method_114_code, 7, (some .int), 3, 0, 8, 2)
def k_31_0 : List Rw := [(.aload_n 0, 1, 0, 0, .null, .int, 0), (.aload_n 0, 2, 0, 0, .null, .int, 0), (.iload_n 1, 3, 1, 0, .null, .int, 0), (.iload_n 2, 4, 2, 0, .null, .int, 0), (.invokevirtual 295, 7, 166, 3, .ref 8, .int, 165), (.invokevirtual 288, 10, 138, 2, .ref 8, .int, 137), (.ifCond .ne 5, 13, 15, 0, .null, .int, 0), (.iconst 0, 14, 0, 0, .int (0), .int, 0), (.ireturn, 15, 0, 0, .null, .int, 0)]
def k_31_15 : List Rw := [(.aload_n 0, 16, 0, 0, .null, .int, 0), (.iload_n 1, 17, 1, 0, .null, .int, 0), (.iload_n 2, 18, 2, 0, .null, .int, 0), (.invokevirtual 351, 21, 170, 3, .ref 8, .int, 169), (.istore_n 3, 22, 3, 0, .null, .int, 0), (.iload_n 3, 23, 3, 0, .null, .int, 0), (.iconst (-1), 24, 0, 0, .int (-1), .int, 0), (.if_icmp .ne 9, 27, 33, 0, .null, .int, 0), (.aload_n 0, 28, 0, 0, .null, .int, 0), (.iconst 3, 29, 0, 0, .int (3), .int, 0), (.invokevirtual 218, 32, 156, 2, .ref 8, .int, 155), (.ireturn, 33, 0, 0, .null, .int, 0)]
def k_31_33 : List Rw := [(.aload_n 0, 34, 0, 0, .null, .int, 0), (.invokevirtual 354, 37, 157, 1, .ref 8, .int, 156), (.aload_n 0, 38, 0, 0, .null, .int, 0), (.iload_n 3, 39, 3, 0, .null, .int, 0), (.iload_n 1, 40, 1, 0, .null, .int, 0), (.invokevirtual 345, 43, 171, 3, .ref 8, .int, 170), (.istore 4, 45, 4, 0, .null, .int, 0), (.aload_n 0, 46, 0, 0, .null, .int, 0), (.getfield 30, 49, 8, 15, .null, (.array .int), 21), (.bipush 7, 51, 0, 0, .int (7), .int, 0), (.iaload, 52, 0, 0, .null, .int, 0), (.iconst 1, 53, 0, 0, .int (1), .int, 0), (.isub, 54, 0, 0, .null, .int, 0), (.istore 5, 56, 5, 0, .null, .int, 0)]
def k_31_56 : List Rw := [(.iload 5, 58, 5, 0, .null, .int, 0), (.ifCond .lt 52, 61, 110, 0, .null, .int, 0), (.iload_n 3, 62, 3, 0, .null, .int, 0), (.iload 5, 64, 5, 0, .null, .int, 0), (.ishr, 65, 0, 0, .null, .int, 0), (.iconst 1, 66, 0, 0, .int (1), .int, 0), (.iand, 67, 0, 0, .null, .int, 0), (.ifCond .ne 6, 70, 73, 0, .null, .int, 0), (.goto 34, 73, 104, 0, .null, .int, 0)]
def k_31_73 : List Rw := [(.aload_n 0, 74, 0, 0, .null, .int, 0), (.iload 5, 76, 5, 0, .null, .int, 0), (.invokevirtual 357, 79, 167, 2, .ref 8, .int, 166), (.istore 6, 81, 6, 0, .null, .int, 0), (.aload_n 0, 82, 0, 0, .null, .int, 0), (.getfield 30, 85, 8, 15, .null, (.array .int), 21), (.bipush 48, 87, 0, 0, .int (48), .int, 0), (.iload 6, 89, 6, 0, .null, .int, 0), (.iadd, 90, 0, 0, .null, .int, 0), (.iconst 4, 91, 0, 0, .int (4), .int, 0), (.iastore, 92, 0, 0, .null, .int, 0), (.aload_n 0, 93, 0, 0, .null, .int, 0), (.getfield 30, 96, 8, 15, .null, (.array .int), 21), (.sipush 128, 99, 0, 0, .int (128), .int, 0), (.iload 6, 101, 6, 0, .null, .int, 0), (.iadd, 102, 0, 0, .null, .int, 0), (.iload_n 2, 103, 2, 0, .null, .int, 0), (.iastore, 104, 0, 0, .null, .int, 0)]
def k_31_104 : List Rw := [(.iinc 5 (-1), 107, 5, 0, .int (-1), .int, 0), (.goto (-51), 110, 56, 0, .null, .int, 0)]
def k_31_110 : List Rw := [(.aload_n 0, 111, 0, 0, .null, .int, 0), (.getfield 30, 114, 8, 15, .null, (.array .int), 21), (.iload_n 1, 115, 1, 0, .null, .int, 0), (.iload_n 2, 116, 2, 0, .null, .int, 0), (.invokestatic 248, 119, 172, 2, .null, .int, 171), (.dup2, 120, 0, 0, .null, .int, 0), (.iaload, 121, 0, 0, .null, .int, 0), (.iload 4, 123, 4, 0, .null, .int, 0), (.iadd, 124, 0, 0, .null, .int, 0), (.iastore, 125, 0, 0, .null, .int, 0), (.aload_n 0, 126, 0, 0, .null, .int, 0), (.aload_n 0, 127, 0, 0, .null, .int, 0), (.getfield 30, 130, 8, 15, .null, (.array .int), 21), (.iload_n 1, 131, 1, 0, .null, .int, 0), (.iload_n 2, 132, 2, 0, .null, .int, 0), (.invokevirtual 251, 135, 173, 4, .ref 8, .int, 172), (.ireturn, 136, 0, 0, .null, .int, 0)]
def bl_31 : List (Nat × List Rw × Nat) := [(0, k_31_0, 99999), (15, k_31_15, 99999), (33, k_31_33, 56), (56, k_31_56, 99999), (73, k_31_73, 104), (104, k_31_104, 99999), (110, k_31_110, 99999)]
set_option maxRecDepth 1000000 in
theorem ok_31 : bl_31.all (fun b => rowsB e_31 b.1 b.2.1 b.2.2) = true := by decide +kernel
-- FishGraderLaw.advance (LFishGrader;I[J)I
abbrev e_32 : MIt := (⟨"FishGraderLaw", "advance", "(LFishGrader;I[J)I"⟩, method_39_code, 4, (some .int), 7, 3, 0, 3)
def k_32_0 : List Rw := [(.aload_n 2, 1, 2, 0, .null, .int, 0), (.iconst 0, 2, 0, 0, .int (0), .int, 0), (.aload_n 0, 3, 0, 0, .null, .int, 0), (.iload_n 1, 4, 1, 0, .null, .int, 0), (.invokevirtual 129, 7, 174, 2, .ref 7, .int, 173), (.i2l, 8, 0, 0, .null, .int, 0), (.lastore, 9, 0, 0, .null, .int, 0), (.goto 9, 12, 18, 0, .null, .int, 0)]
def k_32_13 : List Rw := [(.iconst 1, 14, 0, 0, .int (1), .int, 0), (.ireturn, 15, 0, 0, .null, .int, 0)]
def k_32_16 : List Rw := [(.iconst 2, 17, 0, 0, .int (2), .int, 0), (.ireturn, 18, 0, 0, .null, .int, 0)]
def k_32_18 : List Rw := [(.iconst 0, 19, 0, 0, .int (0), .int, 0), (.ireturn, 20, 0, 0, .null, .int, 0)]
def bl_32 : List (Nat × List Rw × Nat) := [(0, k_32_0, 99999), (13, k_32_13, 99999), (16, k_32_16, 99999), (18, k_32_18, 99999)]
set_option maxRecDepth 1000000 in
theorem ok_32 : bl_32.all (fun b => rowsB e_32 b.1 b.2.1 b.2.2) = true := by decide +kernel
-- FishGraderModel.advance (I)I
abbrev e_33 : MIt := (⟨"FishGraderModel", "advance", "(I)I"⟩, prog_11_method_112_code, 3, (some .int), 6, 0, 8, 1)
def k_33_0 : List Rw := [(.aload_n 0, 1, 0, 0, .null, .int, 0), (.iload_n 1, 2, 1, 0, .null, .int, 0), (.bipush 100, 4, 0, 0, .int (100), .int, 0), (.iconst 2, 5, 0, 0, .int (2), .int, 0), (.invokevirtual 328, 8, 175, 4, .ref 8, .int, 174), (.ifCond .ne 5, 11, 13, 0, .null, .int, 0), (.iconst 0, 12, 0, 0, .int (0), .int, 0), (.ireturn, 13, 0, 0, .null, .int, 0)]
def k_33_13 : List Rw := [(.aload_n 0, 14, 0, 0, .null, .int, 0), (.invokevirtual 354, 17, 157, 1, .ref 8, .int, 156), (.aload_n 0, 18, 0, 0, .null, .int, 0), (.getfield 30, 21, 8, 15, .null, (.array .int), 21), (.bipush 8, 23, 0, 0, .int (8), .int, 0), (.iaload, 24, 0, 0, .null, .int, 0), (.istore_n 2, 25, 2, 0, .null, .int, 0), (.aload_n 0, 26, 0, 0, .null, .int, 0), (.aload_n 0, 27, 0, 0, .null, .int, 0), (.getfield 30, 30, 8, 15, .null, (.array .int), 21), (.iload_n 1, 31, 1, 0, .null, .int, 0), (.invokevirtual 334, 34, 176, 3, .ref 8, .int, 175), (.aload_n 0, 35, 0, 0, .null, .int, 0), (.getfield 30, 38, 8, 15, .null, (.array .int), 21), (.bipush 8, 40, 0, 0, .int (8), .int, 0), (.iaload, 41, 0, 0, .null, .int, 0), (.iload_n 2, 42, 2, 0, .null, .int, 0), (.isub, 43, 0, 0, .null, .int, 0), (.ireturn, 44, 0, 0, .null, .int, 0)]
def bl_33 : List (Nat × List Rw × Nat) := [(0, k_33_0, 99999), (13, k_33_13, 99999)]
set_option maxRecDepth 1000000 in
theorem ok_33 : bl_33.all (fun b => rowsB e_33 b.1 b.2.1 b.2.2) = true := by decide +kernel
-- FishGraderLaw.iceNeeded (LFishGrader;[J)I
abbrev e_34 : MIt := (⟨"FishGraderLaw", "iceNeeded", "(LFishGrader;[J)I"⟩, method_38_code, 3, (some .int), 3, 3, 0, 2)
def k_34_0 : List Rw := [(.aload_n 1, 1, 1, 0, .null, .int, 0), (.iconst 0, 2, 0, 0, .int (0), .int, 0), (.aload_n 0, 3, 0, 0, .null, .int, 0), (.invokevirtual 126, 6, 177, 1, .ref 7, .int, 176), (.i2l, 7, 0, 0, .null, .int, 0), (.lastore, 8, 0, 0, .null, .int, 0), (.goto 6, 11, 14, 0, .null, .int, 0)]
def k_34_12 : List Rw := [(.iconst 1, 13, 0, 0, .int (1), .int, 0), (.ireturn, 14, 0, 0, .null, .int, 0)]
def k_34_14 : List Rw := [(.iconst 0, 15, 0, 0, .int (0), .int, 0), (.ireturn, 16, 0, 0, .null, .int, 0)]
def bl_34 : List (Nat × List Rw × Nat) := [(0, k_34_0, 99999), (12, k_34_12, 99999), (14, k_34_14, 99999)]
set_option maxRecDepth 1000000 in
theorem ok_34 : bl_34.all (fun b => rowsB e_34 b.1 b.2.1 b.2.2) = true := by decide +kernel
-- FishGraderModel.iceNeeded ()I
abbrev e_35 : MIt := (⟨"FishGraderModel", "iceNeeded", "()I"⟩, prog_11_method_111_code, 3, (some .int), 1, 0, 8, 0)
def k_35_0 : List Rw := [(.aload_n 0, 1, 0, 0, .null, .int, 0), (.iconst 1, 2, 0, 0, .int (1), .int, 0), (.invokevirtual 288, 5, 138, 2, .ref 8, .int, 137), (.ifCond .ne 5, 8, 10, 0, .null, .int, 0), (.iconst 0, 9, 0, 0, .int (0), .int, 0), (.ireturn, 10, 0, 0, .null, .int, 0)]
def k_35_10 : List Rw := [(.iconst 0, 11, 0, 0, .int (0), .int, 0), (.istore_n 1, 12, 1, 0, .null, .int, 0), (.iconst 0, 13, 0, 0, .int (0), .int, 0), (.istore_n 2, 14, 2, 0, .null, .int, 0)]
def k_35_14 : List Rw := [(.iload_n 2, 15, 2, 0, .null, .int, 0), (.aload_n 0, 16, 0, 0, .null, .int, 0), (.getfield 30, 19, 8, 15, .null, (.array .int), 21), (.bipush 8, 21, 0, 0, .int (8), .int, 0), (.iaload, 22, 0, 0, .null, .int, 0), (.if_icmp .ge 39, 25, 61, 0, .null, .int, 0), (.iload_n 1, 26, 1, 0, .null, .int, 0), (.aload_n 0, 27, 0, 0, .null, .int, 0), (.getfield 30, 30, 8, 15, .null, (.array .int), 21), (.sipush 1088, 33, 0, 0, .int (1088), .int, 0), (.iload_n 2, 34, 2, 0, .null, .int, 0), (.iadd, 35, 0, 0, .null, .int, 0), (.iaload, 36, 0, 0, .null, .int, 0), (.iconst (-1), 37, 0, 0, .int (-1), .int, 0), (.if_icmp .ne 15, 40, 52, 0, .null, .int, 0), (.aload_n 0, 41, 0, 0, .null, .int, 0), (.aload_n 0, 42, 0, 0, .null, .int, 0), (.getfield 30, 45, 8, 15, .null, (.array .int), 21), (.iload_n 2, 46, 2, 0, .null, .int, 0), (.invokevirtual 245, 49, 178, 3, .ref 8, .int, 177), (.goto 4, 52, 53, 0, .null, .int, 0)]
def k_35_52 : List Rw := [(.iconst 0, 53, 0, 0, .int (0), .int, 0)]
def k_35_53 : List Rw := [(.iadd, 54, 0, 0, .null, .int, 0), (.istore_n 1, 55, 1, 0, .null, .int, 0), (.iinc 2 1, 58, 2, 0, .int (1), .int, 0), (.goto (-44), 61, 14, 0, .null, .int, 0)]
def k_35_61 : List Rw := [(.iconst 0, 62, 0, 0, .int (0), .int, 0), (.iload_n 1, 63, 1, 0, .null, .int, 0), (.aload_n 0, 64, 0, 0, .null, .int, 0), (.getfield 30, 67, 8, 15, .null, (.array .int), 21), (.iconst 3, 68, 0, 0, .int (3), .int, 0), (.iaload, 69, 0, 0, .null, .int, 0), (.isub, 70, 0, 0, .null, .int, 0), (.invokestatic 202, 73, 0, 2, .int 1, .int, 0), (.ireturn, 74, 0, 0, .null, .int, 0)]
def bl_35 : List (Nat × List Rw × Nat) := [(0, k_35_0, 99999), (10, k_35_10, 14), (14, k_35_14, 99999), (52, k_35_52, 53), (53, k_35_53, 99999), (61, k_35_61, 99999)]
set_option maxRecDepth 1000000 in
theorem ok_35 : bl_35.all (fun b => rowsB e_35 b.1 b.2.1 b.2.2) = true := by decide +kernel
-- FishGraderLaw.lookahead (LFishGrader;III[J)I
abbrev e_36 : MIt := (⟨"FishGraderLaw", "lookahead", "(LFishGrader;III[J)I"⟩, method_37_code, 6, (some .int), 4, 3, 0, 5)
def k_36_0 : List Rw := [(.aload 4, 2, 4, 0, .null, .int, 0), (.iconst 0, 3, 0, 0, .int (0), .int, 0), (.aload_n 0, 4, 0, 0, .null, .int, 0), (.iload_n 1, 5, 1, 0, .null, .int, 0), (.iload_n 2, 6, 2, 0, .null, .int, 0), (.iload_n 3, 7, 3, 0, .null, .int, 0), (.invokevirtual 122, 10, 179, 4, .ref 7, .int, 178), (.i2l, 11, 0, 0, .null, .int, 0), (.lastore, 12, 0, 0, .null, .int, 0), (.goto 15, 15, 27, 0, .null, .int, 0)]
def k_36_17 : List Rw := [(.iconst 1, 18, 0, 0, .int (1), .int, 0), (.ireturn, 19, 0, 0, .null, .int, 0)]
def k_36_21 : List Rw := [(.iconst 2, 22, 0, 0, .int (2), .int, 0), (.ireturn, 23, 0, 0, .null, .int, 0)]
def k_36_25 : List Rw := [(.iconst 3, 26, 0, 0, .int (3), .int, 0), (.ireturn, 27, 0, 0, .null, .int, 0)]
def k_36_27 : List Rw := [(.iconst 0, 28, 0, 0, .int (0), .int, 0), (.ireturn, 29, 0, 0, .null, .int, 0)]
def bl_36 : List (Nat × List Rw × Nat) := [(0, k_36_0, 99999), (17, k_36_17, 99999), (21, k_36_21, 99999), (25, k_36_25, 99999), (27, k_36_27, 99999)]
set_option maxRecDepth 1000000 in
theorem ok_36 : bl_36.all (fun b => rowsB e_36 b.1 b.2.1 b.2.2) = true := by decide +kernel
-- FishGraderModel.lookahead (III)I
abbrev e_37 : MIt := (⟨"FishGraderModel", "lookahead", "(III)I"⟩, prog_11_method_110_code, 9, (some .int), 3, 0, 8, 3)
def k_37_0 : List Rw := [(.aload_n 0, 1, 0, 0, .null, .int, 0), (.aload_n 0, 2, 0, 0, .null, .int, 0), (.iload_n 1, 3, 1, 0, .null, .int, 0), (.iload_n 2, 4, 2, 0, .null, .int, 0), (.invokevirtual 295, 7, 166, 3, .ref 8, .int, 165), (.invokevirtual 288, 10, 138, 2, .ref 8, .int, 137), (.ifCond .ne 5, 13, 15, 0, .null, .int, 0), (.iconst 0, 14, 0, 0, .int (0), .int, 0), (.ireturn, 15, 0, 0, .null, .int, 0)]
def k_37_15 : List Rw := [(.iload_n 3, 16, 3, 0, .null, .int, 0), (.iconst 1, 17, 0, 0, .int (1), .int, 0), (.bipush 12, 19, 0, 0, .int (12), .int, 0), (.invokestatic 84, 22, 136, 3, .null, .int, 135), (.ifCond .ne 9, 25, 31, 0, .null, .int, 0), (.aload_n 0, 26, 0, 0, .null, .int, 0), (.iconst 3, 27, 0, 0, .int (3), .int, 0), (.invokevirtual 218, 30, 156, 2, .ref 8, .int, 155), (.ireturn, 31, 0, 0, .null, .int, 0)]
def k_37_31 : List Rw := [(.iconst 0, 32, 0, 0, .int (0), .int, 0), (.istore 4, 34, 4, 0, .null, .int, 0), (.aload_n 0, 35, 0, 0, .null, .int, 0), (.getfield 30, 38, 8, 15, .null, (.array .int), 21), (.iconst 5, 39, 0, 0, .int (5), .int, 0), (.iaload, 40, 0, 0, .null, .int, 0), (.istore 5, 42, 5, 0, .null, .int, 0)]
def k_37_42 : List Rw := [(.iload 5, 44, 5, 0, .null, .int, 0), (.aload_n 0, 45, 0, 0, .null, .int, 0), (.getfield 30, 48, 8, 15, .null, (.array .int), 21), (.bipush 9, 50, 0, 0, .int (9), .int, 0), (.iaload, 51, 0, 0, .null, .int, 0), (.if_icmp .ge 54, 54, 105, 0, .null, .int, 0), (.iload 4, 56, 4, 0, .null, .int, 0), (.iload_n 3, 57, 3, 0, .null, .int, 0), (.if_icmp .ge 48, 60, 105, 0, .null, .int, 0), (.aload_n 0, 61, 0, 0, .null, .int, 0), (.getfield 30, 64, 8, 15, .null, (.array .int), 21), (.sipush 288, 67, 0, 0, .int (288), .int, 0), (.iload 5, 69, 5, 0, .null, .int, 0), (.iadd, 70, 0, 0, .null, .int, 0), (.iaload, 71, 0, 0, .null, .int, 0), (.iload_n 1, 72, 1, 0, .null, .int, 0), (.if_icmp .eq 6, 75, 78, 0, .null, .int, 0), (.goto 24, 78, 99, 0, .null, .int, 0)]
def k_37_78 : List Rw := [(.aload_n 0, 79, 0, 0, .null, .int, 0), (.getfield 45, 82, 8, 24, .null, (.array .int), 26), (.iload 4, 84, 4, 0, .null, .int, 0), (.aload_n 0, 85, 0, 0, .null, .int, 0), (.getfield 30, 88, 8, 15, .null, (.array .int), 21), (.sipush 208, 91, 0, 0, .int (208), .int, 0), (.iload 5, 93, 5, 0, .null, .int, 0), (.iadd, 94, 0, 0, .null, .int, 0), (.iaload, 95, 0, 0, .null, .int, 0), (.iastore, 96, 0, 0, .null, .int, 0), (.iinc 4 1, 99, 4, 0, .int (1), .int, 0)]
def k_37_99 : List Rw := [(.iinc 5 1, 102, 5, 0, .int (1), .int, 0), (.goto (-60), 105, 42, 0, .null, .int, 0)]
def k_37_105 : List Rw := [(.iconst (-1), 106, 0, 0, .int (-1), .int, 0), (.istore 5, 108, 5, 0, .null, .int, 0), (.iconst 1, 109, 0, 0, .int (1), .int, 0), (.istore 6, 111, 6, 0, .null, .int, 0)]
def k_37_111 : List Rw := [(.iload 6, 113, 6, 0, .null, .int, 0), (.iconst 1, 114, 0, 0, .int (1), .int, 0), (.iload 4, 116, 4, 0, .null, .int, 0), (.ishl, 117, 0, 0, .null, .int, 0), (.if_icmp .ge 89, 120, 206, 0, .null, .int, 0), (.aload_n 0, 121, 0, 0, .null, .int, 0), (.getfield 30, 124, 8, 15, .null, (.array .int), 21), (.iload_n 1, 125, 1, 0, .null, .int, 0), (.iload_n 2, 126, 2, 0, .null, .int, 0), (.invokestatic 248, 129, 172, 2, .null, .int, 171), (.iaload, 130, 0, 0, .null, .int, 0), (.aload_n 0, 131, 0, 0, .null, .int, 0), (.getfield 30, 134, 8, 15, .null, (.array .int), 21), (.bipush 10, 136, 0, 0, .int (10), .int, 0), (.iload_n 1, 137, 1, 0, .null, .int, 0), (.iadd, 138, 0, 0, .null, .int, 0), (.iaload, 139, 0, 0, .null, .int, 0), (.isub, 140, 0, 0, .null, .int, 0), (.istore 7, 142, 7, 0, .null, .int, 0), (.iconst 0, 143, 0, 0, .int (0), .int, 0), (.istore 8, 145, 8, 0, .null, .int, 0)]
def k_37_145 : List Rw := [(.iload 8, 147, 8, 0, .null, .int, 0), (.iload 4, 149, 4, 0, .null, .int, 0), (.if_icmp .ge 29, 152, 178, 0, .null, .int, 0), (.iload 7, 154, 7, 0, .null, .int, 0), (.iload 6, 156, 6, 0, .null, .int, 0), (.iload 8, 158, 8, 0, .null, .int, 0), (.ishr, 159, 0, 0, .null, .int, 0), (.iconst 1, 160, 0, 0, .int (1), .int, 0), (.iand, 161, 0, 0, .null, .int, 0), (.aload_n 0, 162, 0, 0, .null, .int, 0), (.getfield 45, 165, 8, 24, .null, (.array .int), 26), (.iload 8, 167, 8, 0, .null, .int, 0), (.iaload, 168, 0, 0, .null, .int, 0), (.imul, 169, 0, 0, .null, .int, 0), (.iadd, 170, 0, 0, .null, .int, 0), (.istore 7, 172, 7, 0, .null, .int, 0), (.iinc 8 1, 175, 8, 0, .int (1), .int, 0), (.goto (-30), 178, 145, 0, .null, .int, 0)]
def k_37_178 : List Rw := [(.iload 7, 180, 7, 0, .null, .int, 0), (.ifCond .lt 20, 183, 200, 0, .null, .int, 0), (.iload 5, 185, 5, 0, .null, .int, 0), (.iconst (-1), 186, 0, 0, .int (-1), .int, 0), (.if_icmp .eq 10, 189, 196, 0, .null, .int, 0), (.iload 7, 191, 7, 0, .null, .int, 0), (.iload 5, 193, 5, 0, .null, .int, 0), (.if_icmp .ge 7, 196, 200, 0, .null, .int, 0)]
def k_37_196 : List Rw := [(.iload 7, 198, 7, 0, .null, .int, 0), (.istore 5, 200, 5, 0, .null, .int, 0)]
def k_37_200 : List Rw := [(.iinc 6 1, 203, 6, 0, .int (1), .int, 0), (.goto (-92), 206, 111, 0, .null, .int, 0)]
def k_37_206 : List Rw := [(.iload 5, 208, 5, 0, .null, .int, 0), (.ireturn, 209, 0, 0, .null, .int, 0)]
def bl_37 : List (Nat × List Rw × Nat) := [(0, k_37_0, 99999), (15, k_37_15, 99999), (31, k_37_31, 42), (42, k_37_42, 99999), (78, k_37_78, 99), (99, k_37_99, 99999), (105, k_37_105, 111), (111, k_37_111, 145), (145, k_37_145, 99999), (178, k_37_178, 196), (196, k_37_196, 200), (200, k_37_200, 99999), (206, k_37_206, 99999)]
set_option maxRecDepth 1000000 in
theorem ok_37 : bl_37.all (fun b => rowsB e_37 b.1 b.2.1 b.2.2) = true := by decide +kernel
-- FishGraderLaw.combination (LFishGrader;II[J)I
abbrev e_38 : MIt := (⟨"FishGraderLaw", "combination", "(LFishGrader;II[J)I"⟩, method_36_code, 5, (some .int), 4, 3, 0, 4)
def k_38_0 : List Rw := [(.aload_n 3, 1, 3, 0, .null, .int, 0), (.iconst 0, 2, 0, 0, .int (0), .int, 0), (.aload_n 0, 3, 0, 0, .null, .int, 0), (.iload_n 1, 4, 1, 0, .null, .int, 0), (.iload_n 2, 5, 2, 0, .null, .int, 0), (.invokevirtual 119, 8, 180, 3, .ref 7, .int, 179), (.i2l, 9, 0, 0, .null, .int, 0), (.lastore, 10, 0, 0, .null, .int, 0), (.goto 11, 13, 21, 0, .null, .int, 0)]
def k_38_15 : List Rw := [(.iconst 1, 16, 0, 0, .int (1), .int, 0), (.ireturn, 17, 0, 0, .null, .int, 0)]
def k_38_19 : List Rw := [(.iconst 2, 20, 0, 0, .int (2), .int, 0), (.ireturn, 21, 0, 0, .null, .int, 0)]
def k_38_21 : List Rw := [(.iconst 0, 22, 0, 0, .int (0), .int, 0), (.ireturn, 23, 0, 0, .null, .int, 0)]
def bl_38 : List (Nat × List Rw × Nat) := [(0, k_38_0, 99999), (15, k_38_15, 99999), (19, k_38_19, 99999), (21, k_38_21, 99999)]
set_option maxRecDepth 1000000 in
theorem ok_38 : bl_38.all (fun b => rowsB e_38 b.1 b.2.1 b.2.2) = true := by decide +kernel
-- FishGraderModel.combination (II)I
abbrev e_39 : MIt := (⟨"FishGraderModel", "combination", "(II)I"⟩, prog_11_method_109_code, 3, (some .int), 3, 0, 8, 2)
def k_39_0 : List Rw := [(.aload_n 0, 1, 0, 0, .null, .int, 0), (.aload_n 0, 2, 0, 0, .null, .int, 0), (.iload_n 1, 3, 1, 0, .null, .int, 0), (.iload_n 2, 4, 2, 0, .null, .int, 0), (.invokevirtual 295, 7, 166, 3, .ref 8, .int, 165), (.invokevirtual 288, 10, 138, 2, .ref 8, .int, 137), (.ifCond .eq 12, 13, 22, 0, .null, .int, 0), (.aload_n 0, 14, 0, 0, .null, .int, 0), (.iload_n 1, 15, 1, 0, .null, .int, 0), (.iload_n 2, 16, 2, 0, .null, .int, 0), (.invokevirtual 351, 19, 170, 3, .ref 8, .int, 169), (.goto 4, 22, 23, 0, .null, .int, 0)]
def k_39_22 : List Rw := [(.iconst 0, 23, 0, 0, .int (0), .int, 0)]
def k_39_23 : List Rw := [(.ireturn, 24, 0, 0, .null, .int, 0)]
def bl_39 : List (Nat × List Rw × Nat) := [(0, k_39_0, 99999), (22, k_39_22, 23), (23, k_39_23, 99999)]
set_option maxRecDepth 1000000 in
theorem ok_39 : bl_39.all (fun b => rowsB e_39 b.1 b.2.1 b.2.2) = true := by decide +kernel
-- FishGraderLaw.bestLimit (LFishGrader;I[J)I
abbrev e_40 : MIt := (⟨"FishGraderLaw", "bestLimit", "(LFishGrader;I[J)I"⟩, method_35_code, 4, (some .int), 7, 3, 0, 3)
def k_40_0 : List Rw := [(.aload_n 2, 1, 2, 0, .null, .int, 0), (.iconst 0, 2, 0, 0, .int (0), .int, 0), (.aload_n 0, 3, 0, 0, .null, .int, 0), (.iload_n 1, 4, 1, 0, .null, .int, 0), (.invokevirtual 116, 7, 181, 2, .ref 7, .int, 180), (.i2l, 8, 0, 0, .null, .int, 0), (.lastore, 9, 0, 0, .null, .int, 0), (.goto 9, 12, 18, 0, .null, .int, 0)]
def k_40_13 : List Rw := [(.iconst 1, 14, 0, 0, .int (1), .int, 0), (.ireturn, 15, 0, 0, .null, .int, 0)]
def k_40_16 : List Rw := [(.iconst 2, 17, 0, 0, .int (2), .int, 0), (.ireturn, 18, 0, 0, .null, .int, 0)]
def k_40_18 : List Rw := [(.iconst 0, 19, 0, 0, .int (0), .int, 0), (.ireturn, 20, 0, 0, .null, .int, 0)]
def bl_40 : List (Nat × List Rw × Nat) := [(0, k_40_0, 99999), (13, k_40_13, 99999), (16, k_40_16, 99999), (18, k_40_18, 99999)]
set_option maxRecDepth 1000000 in
theorem ok_40 : bl_40.all (fun b => rowsB e_40 b.1 b.2.1 b.2.2) = true := by decide +kernel
-- FishGraderModel.bestLimit (I)I
abbrev e_41 : MIt := (⟨"FishGraderModel", "bestLimit", "(I)I"⟩, prog_11_method_103_code, 6, (some .int), 6, 0, 8, 1)
def k_41_0 : List Rw := [(.aload_n 0, 1, 0, 0, .null, .int, 0), (.iload_n 1, 2, 1, 0, .null, .int, 0), (.bipush 60, 4, 0, 0, .int (60), .int, 0), (.iconst 2, 5, 0, 0, .int (2), .int, 0), (.invokevirtual 328, 8, 175, 4, .ref 8, .int, 174), (.ifCond .ne 5, 11, 13, 0, .null, .int, 0), (.iconst 0, 12, 0, 0, .int (0), .int, 0), (.ireturn, 13, 0, 0, .null, .int, 0)]
def k_41_13 : List Rw := [(.iconst (-1), 14, 0, 0, .int (-1), .int, 0), (.istore_n 2, 15, 2, 0, .null, .int, 0), (.iconst 0, 16, 0, 0, .int (0), .int, 0), (.istore_n 3, 17, 3, 0, .null, .int, 0), (.iconst 0, 18, 0, 0, .int (0), .int, 0), (.istore 4, 20, 4, 0, .null, .int, 0)]
def k_41_20 : List Rw := [(.iload 4, 22, 4, 0, .null, .int, 0), (.sipush 1000, 25, 0, 0, .int (1000), .int, 0), (.if_icmp .gt 86, 28, 111, 0, .null, .int, 0), (.aload_n 0, 29, 0, 0, .null, .int, 0), (.invokevirtual 331, 32, 182, 1, .ref 8, .int, 181), (.aload_n 0, 33, 0, 0, .null, .int, 0), (.getfield 36, 36, 8, 17, .null, (.array .int), 23), (.iconst 2, 37, 0, 0, .int (2), .int, 0), (.iload 4, 39, 4, 0, .null, .int, 0), (.iastore, 40, 0, 0, .null, .int, 0), (.aload_n 0, 41, 0, 0, .null, .int, 0), (.aload_n 0, 42, 0, 0, .null, .int, 0), (.getfield 36, 45, 8, 17, .null, (.array .int), 23), (.iload_n 1, 46, 1, 0, .null, .int, 0), (.invokevirtual 334, 49, 176, 3, .ref 8, .int, 175), (.aload_n 0, 50, 0, 0, .null, .int, 0), (.getfield 36, 53, 8, 17, .null, (.array .int), 23), (.aload_n 0, 54, 0, 0, .null, .int, 0), (.getfield 30, 57, 8, 15, .null, (.array .int), 21), (.bipush 8, 59, 0, 0, .int (8), .int, 0), (.iaload, 60, 0, 0, .null, .int, 0), (.iconst (-1), 61, 0, 0, .int (-1), .int, 0), (.invokestatic 316, 64, 143, 3, .null, .int, 142), (.bipush 100, 66, 0, 0, .int (100), .int, 0), (.aload_n 0, 67, 0, 0, .null, .int, 0), (.getfield 36, 70, 8, 17, .null, (.array .int), 23), (.bipush 8, 72, 0, 0, .int (8), .int, 0), (.iaload, 73, 0, 0, .null, .int, 0), (.aload_n 0, 74, 0, 0, .null, .int, 0), (.getfield 30, 77, 8, 15, .null, (.array .int), 21), (.bipush 8, 79, 0, 0, .int (8), .int, 0), (.iaload, 80, 0, 0, .null, .int, 0), (.isub, 81, 0, 0, .null, .int, 0), (.imul, 82, 0, 0, .null, .int, 0), (.isub, 83, 0, 0, .null, .int, 0), (.istore 5, 85, 5, 0, .null, .int, 0), (.iload_n 2, 86, 2, 0, .null, .int, 0), (.iconst (-1), 87, 0, 0, .int (-1), .int, 0), (.if_icmp .eq 12, 90, 99, 0, .null, .int, 0), (.iload 5, 92, 5, 0, .null, .int, 0), (.iload_n 3, 93, 3, 0, .null, .int, 0), (.if_icmp .lt 6, 96, 99, 0, .null, .int, 0), (.goto 9, 99, 105, 0, .null, .int, 0)]
def k_41_99 : List Rw := [(.iload 4, 101, 4, 0, .null, .int, 0), (.istore_n 2, 102, 2, 0, .null, .int, 0), (.iload 5, 104, 5, 0, .null, .int, 0), (.istore_n 3, 105, 3, 0, .null, .int, 0)]
def k_41_105 : List Rw := [(.iinc 4 10, 108, 4, 0, .int (10), .int, 0), (.goto (-88), 111, 20, 0, .null, .int, 0)]
def k_41_111 : List Rw := [(.iload_n 2, 112, 2, 0, .null, .int, 0), (.ireturn, 113, 0, 0, .null, .int, 0)]
def bl_41 : List (Nat × List Rw × Nat) := [(0, k_41_0, 99999), (13, k_41_13, 20), (20, k_41_20, 99999), (99, k_41_99, 105), (105, k_41_105, 99999), (111, k_41_111, 99999)]
set_option maxRecDepth 1000000 in
theorem ok_41 : bl_41.all (fun b => rowsB e_41 b.1 b.2.1 b.2.2) = true := by decide +kernel
-- FishGraderLaw.bestMove (LFishGrader;II[J)I
abbrev e_42 : MIt := (⟨"FishGraderLaw", "bestMove", "(LFishGrader;II[J)I"⟩, method_34_code, 5, (some .int), 7, 3, 0, 4)
def k_42_0 : List Rw := [(.aload_n 3, 1, 3, 0, .null, .int, 0), (.iconst 0, 2, 0, 0, .int (0), .int, 0), (.aload_n 0, 3, 0, 0, .null, .int, 0), (.iload_n 1, 4, 1, 0, .null, .int, 0), (.iload_n 2, 5, 2, 0, .null, .int, 0), (.invokevirtual 113, 8, 183, 3, .ref 7, .int, 182), (.i2l, 9, 0, 0, .null, .int, 0), (.lastore, 10, 0, 0, .null, .int, 0), (.goto 11, 13, 21, 0, .null, .int, 0)]
def k_42_15 : List Rw := [(.iconst 1, 16, 0, 0, .int (1), .int, 0), (.ireturn, 17, 0, 0, .null, .int, 0)]
def k_42_19 : List Rw := [(.iconst 2, 20, 0, 0, .int (2), .int, 0), (.ireturn, 21, 0, 0, .null, .int, 0)]
def k_42_21 : List Rw := [(.iconst 0, 22, 0, 0, .int (0), .int, 0), (.ireturn, 23, 0, 0, .null, .int, 0)]
def bl_42 : List (Nat × List Rw × Nat) := [(0, k_42_0, 99999), (15, k_42_15, 99999), (19, k_42_19, 99999), (21, k_42_21, 99999)]
set_option maxRecDepth 1000000 in
theorem ok_42 : bl_42.all (fun b => rowsB e_42 b.1 b.2.1 b.2.2) = true := by decide +kernel
-- FishGraderModel.bestMove (II)I
abbrev e_43 : MIt := (⟨"FishGraderModel", "bestMove", "(II)I"⟩, prog_11_method_105_code, 9, (some .int), 6, 0, 8, 2)
def k_43_0 : List Rw := [(.aload_n 0, 1, 0, 0, .null, .int, 0), (.iconst 1, 2, 0, 0, .int (1), .int, 0), (.invokevirtual 288, 5, 138, 2, .ref 8, .int, 137), (.ifCond .ne 5, 8, 10, 0, .null, .int, 0), (.iconst 0, 9, 0, 0, .int (0), .int, 0), (.ireturn, 10, 0, 0, .null, .int, 0)]
def k_43_10 : List Rw := [(.iload_n 1, 11, 1, 0, .null, .int, 0), (.iconst 1, 12, 0, 0, .int (1), .int, 0), (.ldc 155, 14, 0, 0, .int (999999), .int, 0), (.invokestatic 84, 17, 136, 3, .null, .int, 135), (.ifCond .eq 13, 20, 30, 0, .null, .int, 0), (.iload_n 2, 21, 2, 0, .null, .int, 0), (.iconst 1, 22, 0, 0, .int (1), .int, 0), (.bipush 100, 24, 0, 0, .int (100), .int, 0), (.invokestatic 84, 27, 136, 3, .null, .int, 135), (.ifCond .ne 9, 30, 36, 0, .null, .int, 0)]
def k_43_30 : List Rw := [(.aload_n 0, 31, 0, 0, .null, .int, 0), (.iconst 2, 32, 0, 0, .int (2), .int, 0), (.invokevirtual 218, 35, 156, 2, .ref 8, .int, 155), (.ireturn, 36, 0, 0, .null, .int, 0)]
def k_43_36 : List Rw := [(.aload_n 0, 37, 0, 0, .null, .int, 0), (.invokevirtual 331, 40, 182, 1, .ref 8, .int, 181), (.aload_n 0, 41, 0, 0, .null, .int, 0), (.aload_n 0, 42, 0, 0, .null, .int, 0), (.getfield 36, 45, 8, 17, .null, (.array .int), 23), (.iload_n 2, 46, 2, 0, .null, .int, 0), (.invokevirtual 334, 49, 176, 3, .ref 8, .int, 175), (.aload_n 0, 50, 0, 0, .null, .int, 0), (.aload_n 0, 51, 0, 0, .null, .int, 0), (.getfield 36, 54, 8, 17, .null, (.array .int), 23), (.invokevirtual 338, 57, 146, 2, .ref 8, .int, 145), (.lstore_n 3, 58, 3, 0, .null, .int, 0), (.iconst (-1), 59, 0, 0, .int (-1), .int, 0), (.istore 5, 61, 5, 0, .null, .int, 0), (.iconst 0, 62, 0, 0, .int (0), .int, 0), (.istore 6, 64, 6, 0, .null, .int, 0)]
def k_43_64 : List Rw := [(.iload 6, 66, 6, 0, .null, .int, 0), (.bipush 16, 68, 0, 0, .int (16), .int, 0), (.if_icmp .ge 130, 71, 198, 0, .null, .int, 0), (.iload 6, 73, 6, 0, .null, .int, 0), (.iconst 4, 74, 0, 0, .int (4), .int, 0), (.idiv, 75, 0, 0, .null, .int, 0), (.istore 7, 77, 7, 0, .null, .int, 0), (.iload 6, 79, 6, 0, .null, .int, 0), (.iconst 4, 80, 0, 0, .int (4), .int, 0), (.irem, 81, 0, 0, .null, .int, 0), (.istore 8, 83, 8, 0, .null, .int, 0), (.aload_n 0, 84, 0, 0, .null, .int, 0), (.iload 7, 86, 7, 0, .null, .int, 0), (.invokevirtual 282, 89, 154, 2, .ref 8, .int, 153), (.ifCond .eq 103, 92, 192, 0, .null, .int, 0), (.aload_n 0, 93, 0, 0, .null, .int, 0), (.iload 8, 95, 8, 0, .null, .int, 0), (.invokevirtual 282, 98, 154, 2, .ref 8, .int, 153), (.ifCond .eq 94, 101, 192, 0, .null, .int, 0), (.aload_n 0, 102, 0, 0, .null, .int, 0), (.iload 7, 104, 7, 0, .null, .int, 0), (.iload 8, 106, 8, 0, .null, .int, 0), (.iload_n 1, 107, 1, 0, .null, .int, 0), (.invokevirtual 342, 110, 155, 4, .ref 8, .int, 154), (.ifCond .ne 6, 113, 116, 0, .null, .int, 0), (.goto 79, 116, 192, 0, .null, .int, 0)]
def k_43_116 : List Rw := [(.aload_n 0, 117, 0, 0, .null, .int, 0), (.invokevirtual 331, 120, 182, 1, .ref 8, .int, 181), (.aload_n 0, 121, 0, 0, .null, .int, 0), (.getfield 36, 124, 8, 17, .null, (.array .int), 23), (.bipush 14, 126, 0, 0, .int (14), .int, 0), (.iload 7, 128, 7, 0, .null, .int, 0), (.iadd, 129, 0, 0, .null, .int, 0), (.dup2, 130, 0, 0, .null, .int, 0), (.iaload, 131, 0, 0, .null, .int, 0), (.iload_n 1, 132, 1, 0, .null, .int, 0), (.isub, 133, 0, 0, .null, .int, 0), (.iastore, 134, 0, 0, .null, .int, 0), (.aload_n 0, 135, 0, 0, .null, .int, 0), (.getfield 36, 138, 8, 17, .null, (.array .int), 23), (.bipush 14, 140, 0, 0, .int (14), .int, 0), (.iload 8, 142, 8, 0, .null, .int, 0), (.iadd, 143, 0, 0, .null, .int, 0), (.dup2, 144, 0, 0, .null, .int, 0), (.iaload, 145, 0, 0, .null, .int, 0), (.iload_n 1, 146, 1, 0, .null, .int, 0), (.iadd, 147, 0, 0, .null, .int, 0), (.iastore, 148, 0, 0, .null, .int, 0), (.aload_n 0, 149, 0, 0, .null, .int, 0), (.aload_n 0, 150, 0, 0, .null, .int, 0), (.getfield 36, 153, 8, 17, .null, (.array .int), 23), (.iload_n 2, 154, 2, 0, .null, .int, 0), (.invokevirtual 334, 157, 176, 3, .ref 8, .int, 175), (.aload_n 0, 158, 0, 0, .null, .int, 0), (.aload_n 0, 159, 0, 0, .null, .int, 0), (.getfield 36, 162, 8, 17, .null, (.array .int), 23), (.invokevirtual 338, 165, 146, 2, .ref 8, .int, 145), (.lload_n 3, 166, 3, 0, .null, .int, 0), (.lcmp, 167, 0, 0, .null, .int, 0), (.ifCond .gt 6, 170, 173, 0, .null, .int, 0), (.goto 22, 173, 192, 0, .null, .int, 0)]
def k_43_173 : List Rw := [(.aload_n 0, 174, 0, 0, .null, .int, 0), (.aload_n 0, 175, 0, 0, .null, .int, 0), (.getfield 36, 178, 8, 17, .null, (.array .int), 23), (.invokevirtual 338, 181, 146, 2, .ref 8, .int, 145), (.lstore_n 3, 182, 3, 0, .null, .int, 0), (.bipush 10, 184, 0, 0, .int (10), .int, 0), (.iload 7, 186, 7, 0, .null, .int, 0), (.imul, 187, 0, 0, .null, .int, 0), (.iload 8, 189, 8, 0, .null, .int, 0), (.iadd, 190, 0, 0, .null, .int, 0), (.istore 5, 192, 5, 0, .null, .int, 0)]
def k_43_192 : List Rw := [(.iinc 6 1, 195, 6, 0, .int (1), .int, 0), (.goto (-131), 198, 64, 0, .null, .int, 0)]
def k_43_198 : List Rw := [(.iload 5, 200, 5, 0, .null, .int, 0), (.ireturn, 201, 0, 0, .null, .int, 0)]
def bl_43 : List (Nat × List Rw × Nat) := [(0, k_43_0, 99999), (10, k_43_10, 30), (30, k_43_30, 99999), (36, k_43_36, 64), (64, k_43_64, 99999), (116, k_43_116, 99999), (173, k_43_173, 192), (192, k_43_192, 99999), (198, k_43_198, 99999)]
set_option maxRecDepth 1000000 in
theorem ok_43 : bl_43.all (fun b => rowsB e_43 b.1 b.2.1 b.2.2) = true := by decide +kernel
-- FishGraderLaw.bestRule (LFishGrader;I[J)I
abbrev e_44 : MIt := (⟨"FishGraderLaw", "bestRule", "(LFishGrader;I[J)I"⟩, method_33_code, 4, (some .int), 7, 3, 0, 3)
def k_44_0 : List Rw := [(.aload_n 2, 1, 2, 0, .null, .int, 0), (.iconst 0, 2, 0, 0, .int (0), .int, 0), (.aload_n 0, 3, 0, 0, .null, .int, 0), (.iload_n 1, 4, 1, 0, .null, .int, 0), (.invokevirtual 110, 7, 184, 2, .ref 7, .int, 183), (.i2l, 8, 0, 0, .null, .int, 0), (.lastore, 9, 0, 0, .null, .int, 0), (.goto 9, 12, 18, 0, .null, .int, 0)]
def k_44_13 : List Rw := [(.iconst 1, 14, 0, 0, .int (1), .int, 0), (.ireturn, 15, 0, 0, .null, .int, 0)]
def k_44_16 : List Rw := [(.iconst 2, 17, 0, 0, .int (2), .int, 0), (.ireturn, 18, 0, 0, .null, .int, 0)]
def k_44_18 : List Rw := [(.iconst 0, 19, 0, 0, .int (0), .int, 0), (.ireturn, 20, 0, 0, .null, .int, 0)]
def bl_44 : List (Nat × List Rw × Nat) := [(0, k_44_0, 99999), (13, k_44_13, 99999), (16, k_44_16, 99999), (18, k_44_18, 99999)]
set_option maxRecDepth 1000000 in
theorem ok_44 : bl_44.all (fun b => rowsB e_44 b.1 b.2.1 b.2.2) = true := by decide +kernel
-- FishGraderModel.bestRule (I)I
abbrev e_45 : MIt := (⟨"FishGraderModel", "bestRule", "(I)I"⟩, prog_11_method_102_code, 12, (some .int), 6, 0, 8, 1)
def k_45_0 : List Rw := [(.aload_n 0, 1, 0, 0, .null, .int, 0), (.iload_n 1, 2, 1, 0, .null, .int, 0), (.bipush 100, 4, 0, 0, .int (100), .int, 0), (.iconst 2, 5, 0, 0, .int (2), .int, 0), (.invokevirtual 328, 8, 175, 4, .ref 8, .int, 174), (.ifCond .ne 5, 11, 13, 0, .null, .int, 0), (.iconst 0, 12, 0, 0, .int (0), .int, 0), (.ireturn, 13, 0, 0, .null, .int, 0)]
def k_45_13 : List Rw := [(.iconst 0, 14, 0, 0, .int (0), .int, 0), (.istore_n 2, 15, 2, 0, .null, .int, 0), (.lconst 0, 16, 0, 0, .long 0, .int, 0), (.lstore_n 3, 17, 3, 0, .null, .int, 0), (.lconst 0, 18, 0, 0, .long 0, .int, 0), (.lstore 5, 20, 5, 0, .null, .int, 0), (.iconst 0, 21, 0, 0, .int (0), .int, 0), (.istore 7, 23, 7, 0, .null, .int, 0)]
def k_45_23 : List Rw := [(.iload 7, 25, 7, 0, .null, .int, 0), (.iconst 3, 26, 0, 0, .int (3), .int, 0), (.if_icmp .ge 106, 29, 132, 0, .null, .int, 0), (.aload_n 0, 30, 0, 0, .null, .int, 0), (.invokevirtual 331, 33, 182, 1, .ref 8, .int, 181), (.aload_n 0, 34, 0, 0, .null, .int, 0), (.getfield 36, 37, 8, 17, .null, (.array .int), 23), (.iconst 1, 38, 0, 0, .int (1), .int, 0), (.iload 7, 40, 7, 0, .null, .int, 0), (.iastore, 41, 0, 0, .null, .int, 0), (.aload_n 0, 42, 0, 0, .null, .int, 0), (.aload_n 0, 43, 0, 0, .null, .int, 0), (.getfield 36, 46, 8, 17, .null, (.array .int), 23), (.iload_n 1, 47, 1, 0, .null, .int, 0), (.invokevirtual 334, 50, 176, 3, .ref 8, .int, 175), (.aload_n 0, 51, 0, 0, .null, .int, 0), (.getfield 36, 54, 8, 17, .null, (.array .int), 23), (.aload_n 0, 55, 0, 0, .null, .int, 0), (.getfield 30, 58, 8, 15, .null, (.array .int), 21), (.bipush 8, 60, 0, 0, .int (8), .int, 0), (.iaload, 61, 0, 0, .null, .int, 0), (.iconst (-1), 62, 0, 0, .int (-1), .int, 0), (.invokestatic 316, 65, 143, 3, .null, .int, 142), (.i2l, 66, 0, 0, .null, .int, 0), (.lstore 8, 68, 8, 0, .null, .int, 0), (.aload_n 0, 69, 0, 0, .null, .int, 0), (.getfield 36, 72, 8, 17, .null, (.array .int), 23), (.bipush 8, 74, 0, 0, .int (8), .int, 0), (.iaload, 75, 0, 0, .null, .int, 0), (.aload_n 0, 76, 0, 0, .null, .int, 0), (.getfield 30, 79, 8, 15, .null, (.array .int), 21), (.bipush 8, 81, 0, 0, .int (8), .int, 0), (.iaload, 82, 0, 0, .null, .int, 0), (.isub, 83, 0, 0, .null, .int, 0), (.i2l, 84, 0, 0, .null, .int, 0), (.lstore 10, 86, 10, 0, .null, .int, 0), (.lload 10, 88, 10, 0, .null, .int, 0), (.lconst 0, 89, 0, 0, .long 0, .int, 0), (.lcmp, 90, 0, 0, .null, .int, 0), (.ifCond .eq 36, 93, 126, 0, .null, .int, 0), (.lload 5, 95, 5, 0, .null, .int, 0), (.lconst 0, 96, 0, 0, .long 0, .int, 0), (.lcmp, 97, 0, 0, .null, .int, 0), (.ifCond .le 19, 100, 116, 0, .null, .int, 0), (.lload 8, 102, 8, 0, .null, .int, 0), (.lload 5, 104, 5, 0, .null, .int, 0), (.lmul, 105, 0, 0, .null, .int, 0), (.lload_n 3, 106, 3, 0, .null, .int, 0), (.lload 10, 108, 10, 0, .null, .int, 0), (.lmul, 109, 0, 0, .null, .int, 0), (.lcmp, 110, 0, 0, .null, .int, 0), (.ifCond .lt 6, 113, 116, 0, .null, .int, 0), (.goto 13, 116, 126, 0, .null, .int, 0)]
def k_45_116 : List Rw := [(.iload 7, 118, 7, 0, .null, .int, 0), (.istore_n 2, 119, 2, 0, .null, .int, 0), (.lload 8, 121, 8, 0, .null, .int, 0), (.lstore_n 3, 122, 3, 0, .null, .int, 0), (.lload 10, 124, 10, 0, .null, .int, 0), (.lstore 5, 126, 5, 0, .null, .int, 0)]
def k_45_126 : List Rw := [(.iinc 7 1, 129, 7, 0, .int (1), .int, 0), (.goto (-106), 132, 23, 0, .null, .int, 0)]
def k_45_132 : List Rw := [(.iload_n 2, 133, 2, 0, .null, .int, 0), (.ireturn, 134, 0, 0, .null, .int, 0)]
def bl_45 : List (Nat × List Rw × Nat) := [(0, k_45_0, 99999), (13, k_45_13, 23), (23, k_45_23, 99999), (116, k_45_116, 126), (126, k_45_126, 99999), (132, k_45_132, 99999)]
set_option maxRecDepth 1000000 in
theorem ok_45 : bl_45.all (fun b => rowsB e_45 b.1 b.2.1 b.2.2) = true := by decide +kernel
-- FishGraderLaw.firstLate (LFishGrader;I[J)I
abbrev e_46 : MIt := (⟨"FishGraderLaw", "firstLate", "(LFishGrader;I[J)I"⟩, method_32_code, 4, (some .int), 6, 3, 0, 3)
def k_46_0 : List Rw := [(.aload_n 2, 1, 2, 0, .null, .int, 0), (.iconst 0, 2, 0, 0, .int (0), .int, 0), (.aload_n 0, 3, 0, 0, .null, .int, 0), (.iload_n 1, 4, 1, 0, .null, .int, 0), (.invokevirtual 107, 7, 185, 2, .ref 7, .int, 184), (.i2l, 8, 0, 0, .null, .int, 0), (.lastore, 9, 0, 0, .null, .int, 0), (.goto 9, 12, 18, 0, .null, .int, 0)]
def k_46_13 : List Rw := [(.iconst 1, 14, 0, 0, .int (1), .int, 0), (.ireturn, 15, 0, 0, .null, .int, 0)]
def k_46_16 : List Rw := [(.iconst 2, 17, 0, 0, .int (2), .int, 0), (.ireturn, 18, 0, 0, .null, .int, 0)]
def k_46_18 : List Rw := [(.iconst 0, 19, 0, 0, .int (0), .int, 0), (.ireturn, 20, 0, 0, .null, .int, 0)]
def bl_46 : List (Nat × List Rw × Nat) := [(0, k_46_0, 99999), (13, k_46_13, 99999), (16, k_46_16, 99999), (18, k_46_18, 99999)]
set_option maxRecDepth 1000000 in
theorem ok_46 : bl_46.all (fun b => rowsB e_46 b.1 b.2.1 b.2.2) = true := by decide +kernel
-- FishGraderModel.firstLate (I)I
abbrev e_47 : MIt := (⟨"FishGraderModel", "firstLate", "(I)I"⟩, prog_11_method_101_code, 4, (some .int), 5, 0, 8, 1)
def k_47_0 : List Rw := [(.aload_n 0, 1, 0, 0, .null, .int, 0), (.iload_n 1, 2, 1, 0, .null, .int, 0), (.bipush 100, 4, 0, 0, .int (100), .int, 0), (.iconst 2, 5, 0, 0, .int (2), .int, 0), (.invokevirtual 328, 8, 175, 4, .ref 8, .int, 174), (.ifCond .ne 5, 11, 13, 0, .null, .int, 0), (.iconst 0, 12, 0, 0, .int (0), .int, 0), (.ireturn, 13, 0, 0, .null, .int, 0)]
def k_47_13 : List Rw := [(.aload_n 0, 14, 0, 0, .null, .int, 0), (.getfield 30, 17, 8, 15, .null, (.array .int), 21), (.invokestatic 309, 20, 186, 1, .null, .int, 185), (.istore_n 2, 21, 2, 0, .null, .int, 0), (.aload_n 0, 22, 0, 0, .null, .int, 0), (.invokevirtual 331, 25, 182, 1, .ref 8, .int, 181), (.iconst 1, 26, 0, 0, .int (1), .int, 0), (.istore_n 3, 27, 3, 0, .null, .int, 0)]
def k_47_27 : List Rw := [(.iload_n 3, 28, 3, 0, .null, .int, 0), (.iload_n 1, 29, 1, 0, .null, .int, 0), (.if_icmp .gt 30, 32, 59, 0, .null, .int, 0), (.aload_n 0, 33, 0, 0, .null, .int, 0), (.aload_n 0, 34, 0, 0, .null, .int, 0), (.getfield 36, 37, 8, 17, .null, (.array .int), 23), (.invokevirtual 276, 40, 187, 2, .ref 8, .int, 186), (.aload_n 0, 41, 0, 0, .null, .int, 0), (.getfield 36, 44, 8, 17, .null, (.array .int), 23), (.invokestatic 309, 47, 186, 1, .null, .int, 185), (.iload_n 2, 48, 2, 0, .null, .int, 0), (.if_icmp .le 5, 51, 53, 0, .null, .int, 0), (.iload_n 3, 52, 3, 0, .null, .int, 0), (.ireturn, 53, 0, 0, .null, .int, 0)]
def k_47_53 : List Rw := [(.iinc 3 1, 56, 3, 0, .int (1), .int, 0), (.goto (-29), 59, 27, 0, .null, .int, 0)]
def k_47_59 : List Rw := [(.iconst (-1), 60, 0, 0, .int (-1), .int, 0), (.ireturn, 61, 0, 0, .null, .int, 0)]
def bl_47 : List (Nat × List Rw × Nat) := [(0, k_47_0, 99999), (13, k_47_13, 27), (27, k_47_27, 99999), (53, k_47_53, 99999), (59, k_47_59, 99999)]
set_option maxRecDepth 1000000 in
theorem ok_47 : bl_47.all (fun b => rowsB e_47 b.1 b.2.1 b.2.2) = true := by decide +kernel
-- FishGraderLaw.firstClosed (LFishGrader;II[J)I
abbrev e_48 : MIt := (⟨"FishGraderLaw", "firstClosed", "(LFishGrader;II[J)I"⟩, method_31_code, 5, (some .int), 6, 3, 0, 4)
def k_48_0 : List Rw := [(.aload_n 3, 1, 3, 0, .null, .int, 0), (.iconst 0, 2, 0, 0, .int (0), .int, 0), (.aload_n 0, 3, 0, 0, .null, .int, 0), (.iload_n 1, 4, 1, 0, .null, .int, 0), (.iload_n 2, 5, 2, 0, .null, .int, 0), (.invokevirtual 104, 8, 188, 3, .ref 7, .int, 187), (.i2l, 9, 0, 0, .null, .int, 0), (.lastore, 10, 0, 0, .null, .int, 0), (.goto 15, 13, 25, 0, .null, .int, 0)]
def k_48_15 : List Rw := [(.iconst 1, 16, 0, 0, .int (1), .int, 0), (.ireturn, 17, 0, 0, .null, .int, 0)]
def k_48_19 : List Rw := [(.iconst 2, 20, 0, 0, .int (2), .int, 0), (.ireturn, 21, 0, 0, .null, .int, 0)]
def k_48_23 : List Rw := [(.iconst 3, 24, 0, 0, .int (3), .int, 0), (.ireturn, 25, 0, 0, .null, .int, 0)]
def k_48_25 : List Rw := [(.iconst 0, 26, 0, 0, .int (0), .int, 0), (.ireturn, 27, 0, 0, .null, .int, 0)]
def bl_48 : List (Nat × List Rw × Nat) := [(0, k_48_0, 99999), (15, k_48_15, 99999), (19, k_48_19, 99999), (23, k_48_23, 99999), (25, k_48_25, 99999)]
set_option maxRecDepth 1000000 in
theorem ok_48 : bl_48.all (fun b => rowsB e_48 b.1 b.2.1 b.2.2) = true := by decide +kernel
-- FishGraderModel.firstClosed (II)I
abbrev e_49 : MIt := (⟨"FishGraderModel", "firstClosed", "(II)I"⟩, prog_11_method_100_code, 4, (some .int), 5, 0, 8, 2)
def k_49_0 : List Rw := [(.aload_n 0, 1, 0, 0, .null, .int, 0), (.aload_n 0, 2, 0, 0, .null, .int, 0), (.iload_n 1, 3, 1, 0, .null, .int, 0), (.invokevirtual 282, 6, 154, 2, .ref 8, .int, 153), (.invokevirtual 288, 9, 138, 2, .ref 8, .int, 137), (.ifCond .ne 5, 12, 14, 0, .null, .int, 0), (.iconst 0, 13, 0, 0, .int (0), .int, 0), (.ireturn, 14, 0, 0, .null, .int, 0)]
def k_49_14 : List Rw := [(.iload_n 2, 15, 2, 0, .null, .int, 0), (.iconst 1, 16, 0, 0, .int (1), .int, 0), (.bipush 100, 18, 0, 0, .int (100), .int, 0), (.invokestatic 84, 21, 136, 3, .null, .int, 135), (.ifCond .ne 9, 24, 30, 0, .null, .int, 0), (.aload_n 0, 25, 0, 0, .null, .int, 0), (.iconst 3, 26, 0, 0, .int (3), .int, 0), (.invokevirtual 218, 29, 156, 2, .ref 8, .int, 155), (.ireturn, 30, 0, 0, .null, .int, 0)]
def k_49_30 : List Rw := [(.aload_n 0, 31, 0, 0, .null, .int, 0), (.invokevirtual 331, 34, 182, 1, .ref 8, .int, 181), (.iconst 1, 35, 0, 0, .int (1), .int, 0), (.istore_n 3, 36, 3, 0, .null, .int, 0)]
def k_49_36 : List Rw := [(.iload_n 3, 37, 3, 0, .null, .int, 0), (.iload_n 2, 38, 2, 0, .null, .int, 0), (.if_icmp .gt 37, 41, 75, 0, .null, .int, 0), (.aload_n 0, 42, 0, 0, .null, .int, 0), (.aload_n 0, 43, 0, 0, .null, .int, 0), (.getfield 36, 46, 8, 17, .null, (.array .int), 23), (.invokevirtual 276, 49, 187, 2, .ref 8, .int, 186), (.aload_n 0, 50, 0, 0, .null, .int, 0), (.getfield 36, 53, 8, 17, .null, (.array .int), 23), (.aload_n 0, 54, 0, 0, .null, .int, 0), (.getfield 30, 57, 8, 15, .null, (.array .int), 21), (.bipush 8, 59, 0, 0, .int (8), .int, 0), (.iaload, 60, 0, 0, .null, .int, 0), (.iload_n 1, 61, 1, 0, .null, .int, 0), (.invokestatic 319, 64, 141, 3, .null, .int, 140), (.ifCond .le 5, 67, 69, 0, .null, .int, 0), (.iload_n 3, 68, 3, 0, .null, .int, 0), (.ireturn, 69, 0, 0, .null, .int, 0)]
def k_49_69 : List Rw := [(.iinc 3 1, 72, 3, 0, .int (1), .int, 0), (.goto (-36), 75, 36, 0, .null, .int, 0)]
def k_49_75 : List Rw := [(.iconst (-1), 76, 0, 0, .int (-1), .int, 0), (.ireturn, 77, 0, 0, .null, .int, 0)]
def bl_49 : List (Nat × List Rw × Nat) := [(0, k_49_0, 99999), (14, k_49_14, 99999), (30, k_49_30, 36), (36, k_49_36, 99999), (69, k_49_69, 99999), (75, k_49_75, 99999)]
set_option maxRecDepth 1000000 in
theorem ok_49 : bl_49.all (fun b => rowsB e_49 b.1 b.2.1 b.2.2) = true := by decide +kernel
-- FishGraderLaw.giveawayIn (LFishGrader;I[J)I
abbrev e_50 : MIt := (⟨"FishGraderLaw", "giveawayIn", "(LFishGrader;I[J)I"⟩, method_30_code, 4, (some .int), 7, 3, 0, 3)
def k_50_0 : List Rw := [(.aload_n 2, 1, 2, 0, .null, .int, 0), (.iconst 0, 2, 0, 0, .int (0), .int, 0), (.aload_n 0, 3, 0, 0, .null, .int, 0), (.iload_n 1, 4, 1, 0, .null, .int, 0), (.invokevirtual 101, 7, 189, 2, .ref 7, .int, 188), (.i2l, 8, 0, 0, .null, .int, 0), (.lastore, 9, 0, 0, .null, .int, 0), (.goto 9, 12, 18, 0, .null, .int, 0)]
def k_50_13 : List Rw := [(.iconst 1, 14, 0, 0, .int (1), .int, 0), (.ireturn, 15, 0, 0, .null, .int, 0)]
def k_50_16 : List Rw := [(.iconst 2, 17, 0, 0, .int (2), .int, 0), (.ireturn, 18, 0, 0, .null, .int, 0)]
def k_50_18 : List Rw := [(.iconst 0, 19, 0, 0, .int (0), .int, 0), (.ireturn, 20, 0, 0, .null, .int, 0)]
def bl_50 : List (Nat × List Rw × Nat) := [(0, k_50_0, 99999), (13, k_50_13, 99999), (16, k_50_16, 99999), (18, k_50_18, 99999)]
set_option maxRecDepth 1000000 in
theorem ok_50 : bl_50.all (fun b => rowsB e_50 b.1 b.2.1 b.2.2) = true := by decide +kernel
-- FishGraderModel.giveawayIn (I)I
abbrev e_51 : MIt := (⟨"FishGraderModel", "giveawayIn", "(I)I"⟩, prog_11_method_99_code, 2, (some .int), 6, 0, 8, 1)
def k_51_0 : List Rw := [(.aload_n 0, 1, 0, 0, .null, .int, 0), (.iload_n 1, 2, 1, 0, .null, .int, 0), (.bipush 100, 4, 0, 0, .int (100), .int, 0), (.iconst 2, 5, 0, 0, .int (2), .int, 0), (.invokevirtual 328, 8, 175, 4, .ref 8, .int, 174), (.ifCond .ne 5, 11, 13, 0, .null, .int, 0), (.iconst 0, 12, 0, 0, .int (0), .int, 0), (.ireturn, 13, 0, 0, .null, .int, 0)]
def k_51_13 : List Rw := [(.aload_n 0, 14, 0, 0, .null, .int, 0), (.invokevirtual 331, 17, 182, 1, .ref 8, .int, 181), (.aload_n 0, 18, 0, 0, .null, .int, 0), (.aload_n 0, 19, 0, 0, .null, .int, 0), (.getfield 36, 22, 8, 17, .null, (.array .int), 23), (.iload_n 1, 23, 1, 0, .null, .int, 0), (.invokevirtual 334, 26, 176, 3, .ref 8, .int, 175), (.aload_n 0, 27, 0, 0, .null, .int, 0), (.getfield 36, 30, 8, 17, .null, (.array .int), 23), (.aload_n 0, 31, 0, 0, .null, .int, 0), (.getfield 30, 34, 8, 15, .null, (.array .int), 21), (.bipush 8, 36, 0, 0, .int (8), .int, 0), (.iaload, 37, 0, 0, .null, .int, 0), (.iconst (-1), 38, 0, 0, .int (-1), .int, 0), (.invokestatic 316, 41, 143, 3, .null, .int, 142), (.ireturn, 42, 0, 0, .null, .int, 0)]
def bl_51 : List (Nat × List Rw × Nat) := [(0, k_51_0, 99999), (13, k_51_13, 99999)]
set_option maxRecDepth 1000000 in
theorem ok_51 : bl_51.all (fun b => rowsB e_51 b.1 b.2.1 b.2.2) = true := by decide +kernel
-- FishGraderLaw.closedIn (LFishGrader;I[J)I
abbrev e_52 : MIt := (⟨"FishGraderLaw", "closedIn", "(LFishGrader;I[J)I"⟩, method_29_code, 4, (some .int), 7, 3, 0, 3)
def k_52_0 : List Rw := [(.aload_n 2, 1, 2, 0, .null, .int, 0), (.iconst 0, 2, 0, 0, .int (0), .int, 0), (.aload_n 0, 3, 0, 0, .null, .int, 0), (.iload_n 1, 4, 1, 0, .null, .int, 0), (.invokevirtual 98, 7, 190, 2, .ref 7, .int, 189), (.i2l, 8, 0, 0, .null, .int, 0), (.lastore, 9, 0, 0, .null, .int, 0), (.goto 9, 12, 18, 0, .null, .int, 0)]
def k_52_13 : List Rw := [(.iconst 1, 14, 0, 0, .int (1), .int, 0), (.ireturn, 15, 0, 0, .null, .int, 0)]
def k_52_16 : List Rw := [(.iconst 2, 17, 0, 0, .int (2), .int, 0), (.ireturn, 18, 0, 0, .null, .int, 0)]
def k_52_18 : List Rw := [(.iconst 0, 19, 0, 0, .int (0), .int, 0), (.ireturn, 20, 0, 0, .null, .int, 0)]
def bl_52 : List (Nat × List Rw × Nat) := [(0, k_52_0, 99999), (13, k_52_13, 99999), (16, k_52_16, 99999), (18, k_52_18, 99999)]
set_option maxRecDepth 1000000 in
theorem ok_52 : bl_52.all (fun b => rowsB e_52 b.1 b.2.1 b.2.2) = true := by decide +kernel
-- FishGraderModel.closedIn (I)I
abbrev e_53 : MIt := (⟨"FishGraderModel", "closedIn", "(I)I"⟩, prog_11_method_98_code, 2, (some .int), 6, 0, 8, 1)
def k_53_0 : List Rw := [(.aload_n 0, 1, 0, 0, .null, .int, 0), (.iload_n 1, 2, 1, 0, .null, .int, 0), (.bipush 100, 4, 0, 0, .int (100), .int, 0), (.iconst 2, 5, 0, 0, .int (2), .int, 0), (.invokevirtual 328, 8, 175, 4, .ref 8, .int, 174), (.ifCond .ne 5, 11, 13, 0, .null, .int, 0), (.iconst 0, 12, 0, 0, .int (0), .int, 0), (.ireturn, 13, 0, 0, .null, .int, 0)]
def k_53_13 : List Rw := [(.aload_n 0, 14, 0, 0, .null, .int, 0), (.invokevirtual 331, 17, 182, 1, .ref 8, .int, 181), (.aload_n 0, 18, 0, 0, .null, .int, 0), (.aload_n 0, 19, 0, 0, .null, .int, 0), (.getfield 36, 22, 8, 17, .null, (.array .int), 23), (.iload_n 1, 23, 1, 0, .null, .int, 0), (.invokevirtual 334, 26, 176, 3, .ref 8, .int, 175), (.aload_n 0, 27, 0, 0, .null, .int, 0), (.getfield 36, 30, 8, 17, .null, (.array .int), 23), (.bipush 8, 32, 0, 0, .int (8), .int, 0), (.iaload, 33, 0, 0, .null, .int, 0), (.aload_n 0, 34, 0, 0, .null, .int, 0), (.getfield 30, 37, 8, 15, .null, (.array .int), 21), (.bipush 8, 39, 0, 0, .int (8), .int, 0), (.iaload, 40, 0, 0, .null, .int, 0), (.isub, 41, 0, 0, .null, .int, 0), (.ireturn, 42, 0, 0, .null, .int, 0)]
def bl_53 : List (Nat × List Rw × Nat) := [(0, k_53_0, 99999), (13, k_53_13, 99999)]
set_option maxRecDepth 1000000 in
theorem ok_53 : bl_53.all (fun b => rowsB e_53 b.1 b.2.1 b.2.2) = true := by decide +kernel
-- FishGraderLaw.meanGiveaway (LFishGrader;IZ[J)I
abbrev e_54 : MIt := (⟨"FishGraderLaw", "meanGiveaway", "(LFishGrader;IZ[J)I"⟩, method_28_code, 5, (some .int), 3, 3, 0, 4)
def k_54_0 : List Rw := [(.aload_n 3, 1, 3, 0, .null, .int, 0), (.iconst 0, 2, 0, 0, .int (0), .int, 0), (.aload_n 0, 3, 0, 0, .null, .int, 0), (.iload_n 1, 4, 1, 0, .null, .int, 0), (.iload_n 2, 5, 2, 0, .null, .int, 0), (.invokevirtual 94, 8, 191, 3, .ref 7, .int, 190), (.i2l, 9, 0, 0, .null, .int, 0), (.lastore, 10, 0, 0, .null, .int, 0), (.goto 11, 13, 21, 0, .null, .int, 0)]
def k_54_15 : List Rw := [(.iconst 1, 16, 0, 0, .int (1), .int, 0), (.ireturn, 17, 0, 0, .null, .int, 0)]
def k_54_19 : List Rw := [(.iconst 2, 20, 0, 0, .int (2), .int, 0), (.ireturn, 21, 0, 0, .null, .int, 0)]
def k_54_21 : List Rw := [(.iconst 0, 22, 0, 0, .int (0), .int, 0), (.ireturn, 23, 0, 0, .null, .int, 0)]
def bl_54 : List (Nat × List Rw × Nat) := [(0, k_54_0, 99999), (15, k_54_15, 99999), (19, k_54_19, 99999), (21, k_54_21, 99999)]
set_option maxRecDepth 1000000 in
theorem ok_54 : bl_54.all (fun b => rowsB e_54 b.1 b.2.1 b.2.2) = true := by decide +kernel
-- FishGraderModel.meanGiveaway (IZ)I
abbrev e_55 : MIt := (⟨"FishGraderModel", "meanGiveaway", "(IZ)I"⟩, prog_11_method_91_code, 5, (some .int), 2, 0, 8, 2)
def k_55_0 : List Rw := [(.aload_n 0, 1, 0, 0, .null, .int, 0), (.aload_n 0, 2, 0, 0, .null, .int, 0), (.iload_n 1, 3, 1, 0, .null, .int, 0), (.invokevirtual 282, 6, 154, 2, .ref 8, .int, 153), (.invokevirtual 288, 9, 138, 2, .ref 8, .int, 137), (.ifCond .ne 5, 12, 14, 0, .null, .int, 0), (.iconst 0, 13, 0, 0, .int (0), .int, 0), (.ireturn, 14, 0, 0, .null, .int, 0)]
def k_55_14 : List Rw := [(.aload_n 0, 15, 0, 0, .null, .int, 0), (.getfield 30, 18, 8, 15, .null, (.array .int), 21), (.iconst 0, 19, 0, 0, .int (0), .int, 0), (.iload_n 1, 20, 1, 0, .null, .int, 0), (.invokestatic 316, 23, 143, 3, .null, .int, 142), (.istore_n 3, 24, 3, 0, .null, .int, 0), (.iconst 1, 25, 0, 0, .int (1), .int, 0), (.aload_n 0, 26, 0, 0, .null, .int, 0), (.getfield 30, 29, 8, 15, .null, (.array .int), 21), (.iconst 0, 30, 0, 0, .int (0), .int, 0), (.iload_n 1, 31, 1, 0, .null, .int, 0), (.invokestatic 319, 34, 141, 3, .null, .int, 140), (.invokestatic 202, 37, 0, 2, .int 1, .int, 0), (.istore 4, 39, 4, 0, .null, .int, 0), (.iload_n 2, 40, 2, 0, .null, .int, 0), (.ifCond .eq 8, 43, 48, 0, .null, .int, 0), (.iload 4, 45, 4, 0, .null, .int, 0), (.goto 4, 48, 49, 0, .null, .int, 0)]
def k_55_48 : List Rw := [(.iload_n 3, 49, 3, 0, .null, .int, 0)]
def k_55_49 : List Rw := [(.iload_n 3, 50, 3, 0, .null, .int, 0), (.iload 4, 52, 4, 0, .null, .int, 0), (.invokestatic 322, 55, 192, 2, .null, .int, 191), (.idiv, 56, 0, 0, .null, .int, 0), (.ireturn, 57, 0, 0, .null, .int, 0)]
def bl_55 : List (Nat × List Rw × Nat) := [(0, k_55_0, 99999), (14, k_55_14, 99999), (48, k_55_48, 49), (49, k_55_49, 99999)]
set_option maxRecDepth 1000000 in
theorem ok_55 : bl_55.all (fun b => rowsB e_55 b.1 b.2.1 b.2.2) = true := by decide +kernel
-- FishGraderLaw.earnings (LFishGrader;I[J)I
abbrev e_56 : MIt := (⟨"FishGraderLaw", "earnings", "(LFishGrader;I[J)I"⟩, method_27_code, 4, (some .int), 3, 3, 0, 3)
def k_56_0 : List Rw := [(.aload_n 2, 1, 2, 0, .null, .int, 0), (.iconst 0, 2, 0, 0, .int (0), .int, 0), (.aload_n 0, 3, 0, 0, .null, .int, 0), (.iload_n 1, 4, 1, 0, .null, .int, 0), (.invokevirtual 91, 7, 193, 2, .ref 7, .int, 192), (.i2l, 8, 0, 0, .null, .int, 0), (.lastore, 9, 0, 0, .null, .int, 0), (.goto 9, 12, 18, 0, .null, .int, 0)]
def k_56_13 : List Rw := [(.iconst 1, 14, 0, 0, .int (1), .int, 0), (.ireturn, 15, 0, 0, .null, .int, 0)]
def k_56_16 : List Rw := [(.iconst 2, 17, 0, 0, .int (2), .int, 0), (.ireturn, 18, 0, 0, .null, .int, 0)]
def k_56_18 : List Rw := [(.iconst 0, 19, 0, 0, .int (0), .int, 0), (.ireturn, 20, 0, 0, .null, .int, 0)]
def bl_56 : List (Nat × List Rw × Nat) := [(0, k_56_0, 99999), (13, k_56_13, 99999), (16, k_56_16, 99999), (18, k_56_18, 99999)]
set_option maxRecDepth 1000000 in
theorem ok_56 : bl_56.all (fun b => rowsB e_56 b.1 b.2.1 b.2.2) = true := by decide +kernel
-- FishGraderModel.earnings (I)I
abbrev e_57 : MIt := (⟨"FishGraderModel", "earnings", "(I)I"⟩, prog_11_method_94_code, 2, (some .int), 2, 0, 8, 1)
def k_57_0 : List Rw := [(.aload_n 0, 1, 0, 0, .null, .int, 0), (.aload_n 0, 2, 0, 0, .null, .int, 0), (.iload_n 1, 3, 1, 0, .null, .int, 0), (.invokevirtual 282, 6, 154, 2, .ref 8, .int, 153), (.invokevirtual 288, 9, 138, 2, .ref 8, .int, 137), (.ifCond .eq 15, 12, 24, 0, .null, .int, 0), (.aload_n 0, 13, 0, 0, .null, .int, 0), (.aload_n 0, 14, 0, 0, .null, .int, 0), (.getfield 30, 17, 8, 15, .null, (.array .int), 21), (.iload_n 1, 18, 1, 0, .null, .int, 0), (.invokevirtual 325, 21, 144, 3, .ref 8, .int, 143), (.goto 4, 24, 25, 0, .null, .int, 0)]
def k_57_24 : List Rw := [(.iconst 0, 25, 0, 0, .int (0), .int, 0)]
def k_57_25 : List Rw := [(.ireturn, 26, 0, 0, .null, .int, 0)]
def bl_57 : List (Nat × List Rw × Nat) := [(0, k_57_0, 99999), (24, k_57_24, 25), (25, k_57_25, 99999)]
set_option maxRecDepth 1000000 in
theorem ok_57 : bl_57.all (fun b => rowsB e_57 b.1 b.2.1 b.2.2) = true := by decide +kernel
-- FishGraderLaw.totalGiveaway (LFishGrader;I[J)I
abbrev e_58 : MIt := (⟨"FishGraderLaw", "totalGiveaway", "(LFishGrader;I[J)I"⟩, method_26_code, 4, (some .int), 3, 3, 0, 3)
def k_58_0 : List Rw := [(.aload_n 2, 1, 2, 0, .null, .int, 0), (.iconst 0, 2, 0, 0, .int (0), .int, 0), (.aload_n 0, 3, 0, 0, .null, .int, 0), (.iload_n 1, 4, 1, 0, .null, .int, 0), (.invokevirtual 88, 7, 194, 2, .ref 7, .int, 193), (.i2l, 8, 0, 0, .null, .int, 0), (.lastore, 9, 0, 0, .null, .int, 0), (.goto 9, 12, 18, 0, .null, .int, 0)]
def k_58_13 : List Rw := [(.iconst 1, 14, 0, 0, .int (1), .int, 0), (.ireturn, 15, 0, 0, .null, .int, 0)]
def k_58_16 : List Rw := [(.iconst 2, 17, 0, 0, .int (2), .int, 0), (.ireturn, 18, 0, 0, .null, .int, 0)]
def k_58_18 : List Rw := [(.iconst 0, 19, 0, 0, .int (0), .int, 0), (.ireturn, 20, 0, 0, .null, .int, 0)]
def bl_58 : List (Nat × List Rw × Nat) := [(0, k_58_0, 99999), (13, k_58_13, 99999), (16, k_58_16, 99999), (18, k_58_18, 99999)]
set_option maxRecDepth 1000000 in
theorem ok_58 : bl_58.all (fun b => rowsB e_58 b.1 b.2.1 b.2.2) = true := by decide +kernel
-- FishGraderModel.totalGiveaway (I)I
abbrev e_59 : MIt := (⟨"FishGraderModel", "totalGiveaway", "(I)I"⟩, prog_11_method_89_code, 2, (some .int), 2, 0, 8, 1)
def k_59_0 : List Rw := [(.aload_n 0, 1, 0, 0, .null, .int, 0), (.aload_n 0, 2, 0, 0, .null, .int, 0), (.iload_n 1, 3, 1, 0, .null, .int, 0), (.invokevirtual 282, 6, 154, 2, .ref 8, .int, 153), (.invokevirtual 288, 9, 138, 2, .ref 8, .int, 137), (.ifCond .eq 15, 12, 24, 0, .null, .int, 0), (.aload_n 0, 13, 0, 0, .null, .int, 0), (.getfield 30, 16, 8, 15, .null, (.array .int), 21), (.iconst 0, 17, 0, 0, .int (0), .int, 0), (.iload_n 1, 18, 1, 0, .null, .int, 0), (.invokestatic 316, 21, 143, 3, .null, .int, 142), (.goto 4, 24, 25, 0, .null, .int, 0)]
def k_59_24 : List Rw := [(.iconst 0, 25, 0, 0, .int (0), .int, 0)]
def k_59_25 : List Rw := [(.ireturn, 26, 0, 0, .null, .int, 0)]
def bl_59 : List (Nat × List Rw × Nat) := [(0, k_59_0, 99999), (24, k_59_24, 25), (25, k_59_25, 99999)]
set_option maxRecDepth 1000000 in
theorem ok_59 : bl_59.all (fun b => rowsB e_59 b.1 b.2.1 b.2.2) = true := by decide +kernel
-- FishGraderLaw.target (LFishGrader;I[J)I
abbrev e_60 : MIt := (⟨"FishGraderLaw", "target", "(LFishGrader;I[J)I"⟩, method_25_code, 4, (some .int), 3, 3, 0, 3)
def k_60_0 : List Rw := [(.aload_n 2, 1, 2, 0, .null, .int, 0), (.iconst 0, 2, 0, 0, .int (0), .int, 0), (.aload_n 0, 3, 0, 0, .null, .int, 0), (.iload_n 1, 4, 1, 0, .null, .int, 0), (.invokevirtual 85, 7, 195, 2, .ref 7, .int, 194), (.i2l, 8, 0, 0, .null, .int, 0), (.lastore, 9, 0, 0, .null, .int, 0), (.goto 9, 12, 18, 0, .null, .int, 0)]
def k_60_13 : List Rw := [(.iconst 1, 14, 0, 0, .int (1), .int, 0), (.ireturn, 15, 0, 0, .null, .int, 0)]
def k_60_16 : List Rw := [(.iconst 2, 17, 0, 0, .int (2), .int, 0), (.ireturn, 18, 0, 0, .null, .int, 0)]
def k_60_18 : List Rw := [(.iconst 0, 19, 0, 0, .int (0), .int, 0), (.ireturn, 20, 0, 0, .null, .int, 0)]
def bl_60 : List (Nat × List Rw × Nat) := [(0, k_60_0, 99999), (13, k_60_13, 99999), (16, k_60_16, 99999), (18, k_60_18, 99999)]
set_option maxRecDepth 1000000 in
theorem ok_60 : bl_60.all (fun b => rowsB e_60 b.1 b.2.1 b.2.2) = true := by decide +kernel
-- FishGraderModel.target (I)I
abbrev e_61 : MIt := (⟨"FishGraderModel", "target", "(I)I"⟩, prog_11_method_86_code, 2, (some .int), 3, 0, 8, 1)
def k_61_0 : List Rw := [(.aload_n 0, 1, 0, 0, .null, .int, 0), (.iload_n 1, 2, 1, 0, .null, .int, 0), (.bipush 10, 4, 0, 0, .int (10), .int, 0), (.invokevirtual 313, 7, 196, 3, .ref 8, .int, 195), (.ireturn, 8, 0, 0, .null, .int, 0)]
def bl_61 : List (Nat × List Rw × Nat) := [(0, k_61_0, 99999)]
set_option maxRecDepth 1000000 in
theorem ok_61 : bl_61.all (fun b => rowsB e_61 b.1 b.2.1 b.2.2) = true := by decide +kernel
-- FishGraderLaw.quota (LFishGrader;I[J)I
abbrev e_62 : MIt := (⟨"FishGraderLaw", "quota", "(LFishGrader;I[J)I"⟩, method_24_code, 4, (some .int), 3, 3, 0, 3)
def k_62_0 : List Rw := [(.aload_n 2, 1, 2, 0, .null, .int, 0), (.iconst 0, 2, 0, 0, .int (0), .int, 0), (.aload_n 0, 3, 0, 0, .null, .int, 0), (.iload_n 1, 4, 1, 0, .null, .int, 0), (.invokevirtual 82, 7, 197, 2, .ref 7, .int, 196), (.i2l, 8, 0, 0, .null, .int, 0), (.lastore, 9, 0, 0, .null, .int, 0), (.goto 9, 12, 18, 0, .null, .int, 0)]
def k_62_13 : List Rw := [(.iconst 1, 14, 0, 0, .int (1), .int, 0), (.ireturn, 15, 0, 0, .null, .int, 0)]
def k_62_16 : List Rw := [(.iconst 2, 17, 0, 0, .int (2), .int, 0), (.ireturn, 18, 0, 0, .null, .int, 0)]
def k_62_18 : List Rw := [(.iconst 0, 19, 0, 0, .int (0), .int, 0), (.ireturn, 20, 0, 0, .null, .int, 0)]
def bl_62 : List (Nat × List Rw × Nat) := [(0, k_62_0, 99999), (13, k_62_13, 99999), (16, k_62_16, 99999), (18, k_62_18, 99999)]
set_option maxRecDepth 1000000 in
theorem ok_62 : bl_62.all (fun b => rowsB e_62 b.1 b.2.1 b.2.2) = true := by decide +kernel
-- FishGraderModel.quota (I)I
abbrev e_63 : MIt := (⟨"FishGraderModel", "quota", "(I)I"⟩, prog_11_method_85_code, 2, (some .int), 3, 0, 8, 1)
def k_63_0 : List Rw := [(.aload_n 0, 1, 0, 0, .null, .int, 0), (.iload_n 1, 2, 1, 0, .null, .int, 0), (.bipush 14, 4, 0, 0, .int (14), .int, 0), (.invokevirtual 313, 7, 196, 3, .ref 8, .int, 195), (.ireturn, 8, 0, 0, .null, .int, 0)]
def bl_63 : List (Nat × List Rw × Nat) := [(0, k_63_0, 99999)]
set_option maxRecDepth 1000000 in
theorem ok_63 : bl_63.all (fun b => rowsB e_63 b.1 b.2.1 b.2.2) = true := by decide +kernel
-- FishGraderLaw.discarded (LFishGrader;I[J)I
abbrev e_64 : MIt := (⟨"FishGraderLaw", "discarded", "(LFishGrader;I[J)I"⟩, method_23_code, 4, (some .int), 3, 3, 0, 3)
def k_64_0 : List Rw := [(.aload_n 2, 1, 2, 0, .null, .int, 0), (.iconst 0, 2, 0, 0, .int (0), .int, 0), (.aload_n 0, 3, 0, 0, .null, .int, 0), (.iload_n 1, 4, 1, 0, .null, .int, 0), (.invokevirtual 79, 7, 198, 2, .ref 7, .int, 197), (.i2l, 8, 0, 0, .null, .int, 0), (.lastore, 9, 0, 0, .null, .int, 0), (.goto 9, 12, 18, 0, .null, .int, 0)]
def k_64_13 : List Rw := [(.iconst 1, 14, 0, 0, .int (1), .int, 0), (.ireturn, 15, 0, 0, .null, .int, 0)]
def k_64_16 : List Rw := [(.iconst 2, 17, 0, 0, .int (2), .int, 0), (.ireturn, 18, 0, 0, .null, .int, 0)]
def k_64_18 : List Rw := [(.iconst 0, 19, 0, 0, .int (0), .int, 0), (.ireturn, 20, 0, 0, .null, .int, 0)]
def bl_64 : List (Nat × List Rw × Nat) := [(0, k_64_0, 99999), (13, k_64_13, 99999), (16, k_64_16, 99999), (18, k_64_18, 99999)]
set_option maxRecDepth 1000000 in
theorem ok_64 : bl_64.all (fun b => rowsB e_64 b.1 b.2.1 b.2.2) = true := by decide +kernel
-- FishGraderModel.discarded (I)I
abbrev e_65 : MIt := (⟨"FishGraderModel", "discarded", "(I)I"⟩, prog_11_method_84_code, 2, (some .int), 3, 0, 8, 1)
def k_65_0 : List Rw := [(.aload_n 0, 1, 0, 0, .null, .int, 0), (.iload_n 1, 2, 1, 0, .null, .int, 0), (.bipush 22, 4, 0, 0, .int (22), .int, 0), (.invokevirtual 313, 7, 196, 3, .ref 8, .int, 195), (.ireturn, 8, 0, 0, .null, .int, 0)]
def bl_65 : List (Nat × List Rw × Nat) := [(0, k_65_0, 99999)]
set_option maxRecDepth 1000000 in
theorem ok_65 : bl_65.all (fun b => rowsB e_65 b.1 b.2.1 b.2.2) = true := by decide +kernel
-- FishGraderLaw.landed (LFishGrader;I[J)I
abbrev e_66 : MIt := (⟨"FishGraderLaw", "landed", "(LFishGrader;I[J)I"⟩, method_22_code, 4, (some .int), 3, 3, 0, 3)
def k_66_0 : List Rw := [(.aload_n 2, 1, 2, 0, .null, .int, 0), (.iconst 0, 2, 0, 0, .int (0), .int, 0), (.aload_n 0, 3, 0, 0, .null, .int, 0), (.iload_n 1, 4, 1, 0, .null, .int, 0), (.invokevirtual 76, 7, 199, 2, .ref 7, .int, 198), (.i2l, 8, 0, 0, .null, .int, 0), (.lastore, 9, 0, 0, .null, .int, 0), (.goto 9, 12, 18, 0, .null, .int, 0)]
def k_66_13 : List Rw := [(.iconst 1, 14, 0, 0, .int (1), .int, 0), (.ireturn, 15, 0, 0, .null, .int, 0)]
def k_66_16 : List Rw := [(.iconst 2, 17, 0, 0, .int (2), .int, 0), (.ireturn, 18, 0, 0, .null, .int, 0)]
def k_66_18 : List Rw := [(.iconst 0, 19, 0, 0, .int (0), .int, 0), (.ireturn, 20, 0, 0, .null, .int, 0)]
def bl_66 : List (Nat × List Rw × Nat) := [(0, k_66_0, 99999), (13, k_66_13, 99999), (16, k_66_16, 99999), (18, k_66_18, 99999)]
set_option maxRecDepth 1000000 in
theorem ok_66 : bl_66.all (fun b => rowsB e_66 b.1 b.2.1 b.2.2) = true := by decide +kernel
-- FishGraderModel.landed (I)I
abbrev e_67 : MIt := (⟨"FishGraderModel", "landed", "(I)I"⟩, prog_11_method_83_code, 2, (some .int), 3, 0, 8, 1)
def k_67_0 : List Rw := [(.aload_n 0, 1, 0, 0, .null, .int, 0), (.iload_n 1, 2, 1, 0, .null, .int, 0), (.bipush 18, 4, 0, 0, .int (18), .int, 0), (.invokevirtual 313, 7, 196, 3, .ref 8, .int, 195), (.ireturn, 8, 0, 0, .null, .int, 0)]
def bl_67 : List (Nat × List Rw × Nat) := [(0, k_67_0, 99999)]
set_option maxRecDepth 1000000 in
theorem ok_67 : bl_67.all (fun b => rowsB e_67 b.1 b.2.1 b.2.2) = true := by decide +kernel
-- FishGrader.rejected ()I
abbrev e_68 : MIt := (⟨"FishGrader", "rejected", "()I"⟩, prog_1_method_35_code, 1, (some .int), 1, 0, 7, 0)
def k_68_0 : List Rw := [(.aload_n 0, 1, 0, 0, .null, .int, 0), (.getfield 23, 4, 7, 4, .null, .boolean, 4), (.ifCond .eq 17, 7, 21, 0, .null, .int, 0), (.aload_n 0, 8, 0, 0, .null, .int, 0), (.getfield 40, 11, 7, 7, .null, (.object "FishGrader$State"), 7), (.getfield 108, 14, 5, 12, .null, (.object "FishGrader$Items"), 32), (.iconst 1, 15, 0, 0, .int (1), .int, 0), (.invokevirtual 222, 18, 200, 2, .ref 1, .int, 199), (.goto 4, 21, 22, 0, .null, .int, 0)]
def k_68_21 : List Rw := [(.iconst 0, 22, 0, 0, .int (0), .int, 0)]
def k_68_22 : List Rw := [(.ireturn, 23, 0, 0, .null, .int, 0)]
def bl_68 : List (Nat × List Rw × Nat) := [(0, k_68_0, 99999), (21, k_68_21, 22), (22, k_68_22, 99999)]
set_option maxRecDepth 1000000 in
theorem ok_68 : bl_68.all (fun b => rowsB e_68 b.1 b.2.1 b.2.2) = true := by decide +kernel
-- FishGraderModel.rejected ()I
abbrev e_69 : MIt := (⟨"FishGraderModel", "rejected", "()I"⟩, prog_11_method_81_code, 1, (some .int), 1, 0, 8, 0)
def k_69_0 : List Rw := [(.aload_n 0, 1, 0, 0, .null, .int, 0), (.bipush 6, 3, 0, 0, .int (6), .int, 0), (.invokevirtual 279, 6, 201, 2, .ref 8, .int, 200), (.ireturn, 7, 0, 0, .null, .int, 0)]
def bl_69 : List (Nat × List Rw × Nat) := [(0, k_69_0, 99999)]
set_option maxRecDepth 1000000 in
theorem ok_69 : bl_69.all (fun b => rowsB e_69 b.1 b.2.1 b.2.2) = true := by decide +kernel
-- FishGraderLaw.late (LFishGrader;[J)I
abbrev e_70 : MIt := (⟨"FishGraderLaw", "late", "(LFishGrader;[J)I"⟩, method_21_code, 3, (some .int), 3, 3, 0, 2)
def k_70_0 : List Rw := [(.aload_n 1, 1, 1, 0, .null, .int, 0), (.iconst 0, 2, 0, 0, .int (0), .int, 0), (.aload_n 0, 3, 0, 0, .null, .int, 0), (.invokevirtual 72, 6, 202, 1, .ref 7, .int, 201), (.i2l, 7, 0, 0, .null, .int, 0), (.lastore, 8, 0, 0, .null, .int, 0), (.goto 6, 11, 14, 0, .null, .int, 0)]
def k_70_12 : List Rw := [(.iconst 1, 13, 0, 0, .int (1), .int, 0), (.ireturn, 14, 0, 0, .null, .int, 0)]
def k_70_14 : List Rw := [(.iconst 0, 15, 0, 0, .int (0), .int, 0), (.ireturn, 16, 0, 0, .null, .int, 0)]
def bl_70 : List (Nat × List Rw × Nat) := [(0, k_70_0, 99999), (12, k_70_12, 99999), (14, k_70_14, 99999)]
set_option maxRecDepth 1000000 in
theorem ok_70 : bl_70.all (fun b => rowsB e_70 b.1 b.2.1 b.2.2) = true := by decide +kernel
-- FishGraderModel.late ()I
abbrev e_71 : MIt := (⟨"FishGraderModel", "late", "()I"⟩, prog_11_method_80_code, 1, (some .int), 2, 0, 8, 0)
def k_71_0 : List Rw := [(.aload_n 0, 1, 0, 0, .null, .int, 0), (.iconst 1, 2, 0, 0, .int (1), .int, 0), (.invokevirtual 288, 5, 138, 2, .ref 8, .int, 137), (.ifCond .eq 13, 8, 18, 0, .null, .int, 0), (.aload_n 0, 9, 0, 0, .null, .int, 0), (.getfield 30, 12, 8, 15, .null, (.array .int), 21), (.invokestatic 309, 15, 186, 1, .null, .int, 185), (.goto 4, 18, 19, 0, .null, .int, 0)]
def k_71_18 : List Rw := [(.iconst 0, 19, 0, 0, .int (0), .int, 0)]
def k_71_19 : List Rw := [(.ireturn, 20, 0, 0, .null, .int, 0)]
def bl_71 : List (Nat × List Rw × Nat) := [(0, k_71_0, 99999), (18, k_71_18, 19), (19, k_71_19, 99999)]
set_option maxRecDepth 1000000 in
theorem ok_71 : bl_71.all (fun b => rowsB e_71 b.1 b.2.1 b.2.2) = true := by decide +kernel
-- FishGraderLaw.isStopped (LFishGrader;I[J)I
abbrev e_72 : MIt := (⟨"FishGraderLaw", "isStopped", "(LFishGrader;I[J)I"⟩, method_20_code, 4, (some .int), 2, 3, 0, 3)
def k_72_0 : List Rw := [(.aload_n 2, 1, 2, 0, .null, .int, 0), (.iconst 0, 2, 0, 0, .int (0), .int, 0), (.aload_n 0, 3, 0, 0, .null, .int, 0), (.iload_n 1, 4, 1, 0, .null, .int, 0), (.invokevirtual 68, 7, 203, 2, .ref 7, .int, 202), (.ifCond .eq 7, 10, 14, 0, .null, .int, 0), (.lconst 1, 11, 0, 0, .long 1, .int, 0), (.goto 4, 14, 15, 0, .null, .int, 0)]
def k_72_14 : List Rw := [(.lconst 0, 15, 0, 0, .long 0, .int, 0)]
def k_72_15 : List Rw := [(.lastore, 16, 0, 0, .null, .int, 0), (.goto 9, 19, 25, 0, .null, .int, 0)]
def k_72_20 : List Rw := [(.iconst 1, 21, 0, 0, .int (1), .int, 0), (.ireturn, 22, 0, 0, .null, .int, 0)]
def k_72_23 : List Rw := [(.iconst 2, 24, 0, 0, .int (2), .int, 0), (.ireturn, 25, 0, 0, .null, .int, 0)]
def k_72_25 : List Rw := [(.iconst 0, 26, 0, 0, .int (0), .int, 0), (.ireturn, 27, 0, 0, .null, .int, 0)]
def bl_72 : List (Nat × List Rw × Nat) := [(0, k_72_0, 99999), (14, k_72_14, 15), (15, k_72_15, 99999), (20, k_72_20, 99999), (23, k_72_23, 99999), (25, k_72_25, 99999)]
set_option maxRecDepth 1000000 in
theorem ok_72 : bl_72.all (fun b => rowsB e_72 b.1 b.2.1 b.2.2) = true := by decide +kernel
-- FishGraderModel.isStopped (I)Z
abbrev e_73 : MIt := (⟨"FishGraderModel", "isStopped", "(I)Z"⟩, prog_11_method_95_code, 2, (some .boolean), 2, 0, 8, 1)
def k_73_0 : List Rw := [(.aload_n 0, 1, 0, 0, .null, .int, 0), (.iconst 1, 2, 0, 0, .int (1), .int, 0), (.invokevirtual 288, 5, 138, 2, .ref 8, .int, 137), (.ifCond .ne 5, 8, 10, 0, .null, .int, 0), (.iconst 0, 9, 0, 0, .int (0), .int, 0), (.ireturn, 10, 0, 0, .null, .int, 0)]
def k_73_10 : List Rw := [(.aload_n 0, 11, 0, 0, .null, .int, 0), (.iload_n 1, 12, 1, 0, .null, .int, 0), (.iconst 1, 13, 0, 0, .int (1), .int, 0), (.if_icmp .ge 7, 16, 20, 0, .null, .int, 0), (.iconst 2, 17, 0, 0, .int (2), .int, 0), (.goto 4, 20, 21, 0, .null, .int, 0)]
def k_73_20 : List Rw := [(.iconst 0, 21, 0, 0, .int (0), .int, 0)]
def k_73_21 : List Rw := [(.putfield 51, 24, 8, 0, .null, .int, 29), (.aload_n 0, 25, 0, 0, .null, .int, 0), (.getfield 51, 28, 8, 0, .null, .int, 29), (.ifCond .ne 15, 31, 43, 0, .null, .int, 0), (.aload_n 0, 32, 0, 0, .null, .int, 0), (.iload_n 1, 33, 1, 0, .null, .int, 0), (.invokevirtual 269, 36, 204, 2, .ref 8, .int, 203), (.ifCond .eq 7, 39, 43, 0, .null, .int, 0), (.iconst 1, 40, 0, 0, .int (1), .int, 0), (.goto 4, 43, 44, 0, .null, .int, 0)]
def k_73_43 : List Rw := [(.iconst 0, 44, 0, 0, .int (0), .int, 0)]
def k_73_44 : List Rw := [(.ireturn, 45, 0, 0, .null, .int, 0)]
def bl_73 : List (Nat × List Rw × Nat) := [(0, k_73_0, 99999), (10, k_73_10, 99999), (20, k_73_20, 21), (21, k_73_21, 99999), (43, k_73_43, 44), (44, k_73_44, 99999)]
set_option maxRecDepth 1000000 in
theorem ok_73 : bl_73.all (fun b => rowsB e_73 b.1 b.2.1 b.2.2) = true := by decide +kernel
-- FishGrader.iceUsed ()I
abbrev e_74 : MIt := (⟨"FishGrader", "iceUsed", "()I"⟩, prog_1_method_32_code, 1, (some .int), 0, 0, 7, 0)
def k_74_0 : List Rw := [(.aload_n 0, 1, 0, 0, .null, .int, 0), (.getfield 23, 4, 7, 4, .null, .boolean, 4), (.ifCond .eq 13, 7, 17, 0, .null, .int, 0), (.aload_n 0, 8, 0, 0, .null, .int, 0), (.getfield 40, 11, 7, 7, .null, (.object "FishGrader$State"), 7), (.getfield 206, 14, 5, 4, .null, .int, 33), (.goto 4, 17, 18, 0, .null, .int, 0)]
def k_74_17 : List Rw := [(.iconst 0, 18, 0, 0, .int (0), .int, 0)]
def k_74_18 : List Rw := [(.ireturn, 19, 0, 0, .null, .int, 0)]
def bl_74 : List (Nat × List Rw × Nat) := [(0, k_74_0, 99999), (17, k_74_17, 18), (18, k_74_18, 99999)]
set_option maxRecDepth 1000000 in
theorem ok_74 : bl_74.all (fun b => rowsB e_74 b.1 b.2.1 b.2.2) = true := by decide +kernel
-- FishGraderModel.iceUsed ()I
abbrev e_75 : MIt := (⟨"FishGraderModel", "iceUsed", "()I"⟩, prog_11_method_77_code, 1, (some .int), 1, 0, 8, 0)
def k_75_0 : List Rw := [(.aload_n 0, 1, 0, 0, .null, .int, 0), (.iconst 4, 2, 0, 0, .int (4), .int, 0), (.invokevirtual 279, 5, 201, 2, .ref 8, .int, 200), (.ireturn, 6, 0, 0, .null, .int, 0)]
def bl_75 : List (Nat × List Rw × Nat) := [(0, k_75_0, 99999)]
set_option maxRecDepth 1000000 in
theorem ok_75 : bl_75.all (fun b => rowsB e_75 b.1 b.2.1 b.2.2) = true := by decide +kernel
-- FishGrader.ice ()I
abbrev e_76 : MIt := (⟨"FishGrader", "ice", "()I"⟩, prog_1_method_31_code, 1, (some .int), 0, 0, 7, 0)
def k_76_0 : List Rw := [(.aload_n 0, 1, 0, 0, .null, .int, 0), (.getfield 23, 4, 7, 4, .null, .boolean, 4), (.ifCond .eq 13, 7, 17, 0, .null, .int, 0), (.aload_n 0, 8, 0, 0, .null, .int, 0), (.getfield 40, 11, 7, 7, .null, (.object "FishGrader$State"), 7), (.getfield 203, 14, 5, 3, .null, .int, 34), (.goto 4, 17, 18, 0, .null, .int, 0)]
def k_76_17 : List Rw := [(.iconst 0, 18, 0, 0, .int (0), .int, 0)]
def k_76_18 : List Rw := [(.ireturn, 19, 0, 0, .null, .int, 0)]
def bl_76 : List (Nat × List Rw × Nat) := [(0, k_76_0, 99999), (17, k_76_17, 18), (18, k_76_18, 99999)]
set_option maxRecDepth 1000000 in
theorem ok_76 : bl_76.all (fun b => rowsB e_76 b.1 b.2.1 b.2.2) = true := by decide +kernel
-- FishGraderModel.ice ()I
abbrev e_77 : MIt := (⟨"FishGraderModel", "ice", "()I"⟩, prog_11_method_76_code, 1, (some .int), 1, 0, 8, 0)
def k_77_0 : List Rw := [(.aload_n 0, 1, 0, 0, .null, .int, 0), (.iconst 3, 2, 0, 0, .int (3), .int, 0), (.invokevirtual 279, 5, 201, 2, .ref 8, .int, 200), (.ireturn, 6, 0, 0, .null, .int, 0)]
def bl_77 : List (Nat × List Rw × Nat) := [(0, k_77_0, 99999)]
set_option maxRecDepth 1000000 in
theorem ok_77 : bl_77.all (fun b => rowsB e_77 b.1 b.2.1 b.2.2) = true := by decide +kernel
-- FishGraderLaw.poolItem (LFishGrader;I[J)I
abbrev e_78 : MIt := (⟨"FishGraderLaw", "poolItem", "(LFishGrader;I[J)I"⟩, method_19_code, 4, (some .int), 3, 3, 0, 3)
def k_78_0 : List Rw := [(.aload_n 2, 1, 2, 0, .null, .int, 0), (.iconst 0, 2, 0, 0, .int (0), .int, 0), (.aload_n 0, 3, 0, 0, .null, .int, 0), (.iload_n 1, 4, 1, 0, .null, .int, 0), (.invokevirtual 65, 7, 205, 2, .ref 7, .int, 204), (.i2l, 8, 0, 0, .null, .int, 0), (.lastore, 9, 0, 0, .null, .int, 0), (.goto 9, 12, 18, 0, .null, .int, 0)]
def k_78_13 : List Rw := [(.iconst 1, 14, 0, 0, .int (1), .int, 0), (.ireturn, 15, 0, 0, .null, .int, 0)]
def k_78_16 : List Rw := [(.iconst 2, 17, 0, 0, .int (2), .int, 0), (.ireturn, 18, 0, 0, .null, .int, 0)]
def k_78_18 : List Rw := [(.iconst 0, 19, 0, 0, .int (0), .int, 0), (.ireturn, 20, 0, 0, .null, .int, 0)]
def bl_78 : List (Nat × List Rw × Nat) := [(0, k_78_0, 99999), (13, k_78_13, 99999), (16, k_78_16, 99999), (18, k_78_18, 99999)]
set_option maxRecDepth 1000000 in
theorem ok_78 : bl_78.all (fun b => rowsB e_78 b.1 b.2.1 b.2.2) = true := by decide +kernel
-- FishGraderModel.poolItem (I)I
abbrev e_79 : MIt := (⟨"FishGraderModel", "poolItem", "(I)I"⟩, prog_11_method_75_code, 2, (some .int), 1, 0, 8, 1)
def k_79_0 : List Rw := [(.aload_n 0, 1, 0, 0, .null, .int, 0), (.iload_n 1, 2, 1, 0, .null, .int, 0), (.iconst 0, 3, 0, 0, .int (0), .int, 0), (.aload_n 0, 4, 0, 0, .null, .int, 0), (.getfield 30, 7, 8, 15, .null, (.array .int), 21), (.bipush 7, 9, 0, 0, .int (7), .int, 0), (.iaload, 10, 0, 0, .null, .int, 0), (.iconst 1, 11, 0, 0, .int (1), .int, 0), (.isub, 12, 0, 0, .null, .int, 0), (.invokestatic 84, 15, 136, 3, .null, .int, 135), (.invokevirtual 288, 18, 138, 2, .ref 8, .int, 137), (.ifCond .eq 15, 21, 33, 0, .null, .int, 0), (.aload_n 0, 22, 0, 0, .null, .int, 0), (.getfield 30, 25, 8, 15, .null, (.array .int), 21), (.bipush 38, 27, 0, 0, .int (38), .int, 0), (.iload_n 1, 28, 1, 0, .null, .int, 0), (.iadd, 29, 0, 0, .null, .int, 0), (.iaload, 30, 0, 0, .null, .int, 0), (.goto 4, 33, 34, 0, .null, .int, 0)]
def k_79_33 : List Rw := [(.iconst 0, 34, 0, 0, .int (0), .int, 0)]
def k_79_34 : List Rw := [(.ireturn, 35, 0, 0, .null, .int, 0)]
def bl_79 : List (Nat × List Rw × Nat) := [(0, k_79_0, 99999), (33, k_79_33, 34), (34, k_79_34, 99999)]
set_option maxRecDepth 1000000 in
theorem ok_79 : bl_79.all (fun b => rowsB e_79 b.1 b.2.1 b.2.2) = true := by decide +kernel
-- FishGrader.pooled ()I
abbrev e_80 : MIt := (⟨"FishGrader", "pooled", "()I"⟩, prog_1_method_29_code, 1, (some .int), 0, 0, 7, 0)
def k_80_0 : List Rw := [(.aload_n 0, 1, 0, 0, .null, .int, 0), (.getfield 23, 4, 7, 4, .null, .boolean, 4), (.ifCond .eq 13, 7, 17, 0, .null, .int, 0), (.aload_n 0, 8, 0, 0, .null, .int, 0), (.getfield 40, 11, 7, 7, .null, (.object "FishGrader$State"), 7), (.getfield 194, 14, 5, 5, .null, .int, 35), (.goto 4, 17, 18, 0, .null, .int, 0)]
def k_80_17 : List Rw := [(.iconst 0, 18, 0, 0, .int (0), .int, 0)]
def k_80_18 : List Rw := [(.ireturn, 19, 0, 0, .null, .int, 0)]
def bl_80 : List (Nat × List Rw × Nat) := [(0, k_80_0, 99999), (17, k_80_17, 18), (18, k_80_18, 99999)]
set_option maxRecDepth 1000000 in
theorem ok_80 : bl_80.all (fun b => rowsB e_80 b.1 b.2.1 b.2.2) = true := by decide +kernel
-- FishGraderModel.pooled ()I
abbrev e_81 : MIt := (⟨"FishGraderModel", "pooled", "()I"⟩, prog_11_method_74_code, 1, (some .int), 1, 0, 8, 0)
def k_81_0 : List Rw := [(.aload_n 0, 1, 0, 0, .null, .int, 0), (.bipush 7, 3, 0, 0, .int (7), .int, 0), (.invokevirtual 279, 6, 201, 2, .ref 8, .int, 200), (.ireturn, 7, 0, 0, .null, .int, 0)]
def bl_81 : List (Nat × List Rw × Nat) := [(0, k_81_0, 99999)]
set_option maxRecDepth 1000000 in
theorem ok_81 : bl_81.all (fun b => rowsB e_81 b.1 b.2.1 b.2.2) = true := by decide +kernel
-- FishGrader.rule ()I
abbrev e_82 : MIt := (⟨"FishGrader", "rule", "()I"⟩, prog_1_method_28_code, 1, (some .int), 0, 0, 7, 0)
def k_82_0 : List Rw := [(.aload_n 0, 1, 0, 0, .null, .int, 0), (.getfield 23, 4, 7, 4, .null, .boolean, 4), (.ifCond .eq 13, 7, 17, 0, .null, .int, 0), (.aload_n 0, 8, 0, 0, .null, .int, 0), (.getfield 40, 11, 7, 7, .null, (.object "FishGrader$State"), 7), (.getfield 191, 14, 5, 1, .null, .int, 36), (.goto 4, 17, 18, 0, .null, .int, 0)]
def k_82_17 : List Rw := [(.iconst 0, 18, 0, 0, .int (0), .int, 0)]
def k_82_18 : List Rw := [(.ireturn, 19, 0, 0, .null, .int, 0)]
def bl_82 : List (Nat × List Rw × Nat) := [(0, k_82_0, 99999), (17, k_82_17, 18), (18, k_82_18, 99999)]
set_option maxRecDepth 1000000 in
theorem ok_82 : bl_82.all (fun b => rowsB e_82 b.1 b.2.1 b.2.2) = true := by decide +kernel
-- FishGraderModel.rule ()I
abbrev e_83 : MIt := (⟨"FishGraderModel", "rule", "()I"⟩, prog_11_method_73_code, 1, (some .int), 1, 0, 8, 0)
def k_83_0 : List Rw := [(.aload_n 0, 1, 0, 0, .null, .int, 0), (.iconst 1, 2, 0, 0, .int (1), .int, 0), (.invokevirtual 279, 5, 201, 2, .ref 8, .int, 200), (.ireturn, 6, 0, 0, .null, .int, 0)]
def bl_83 : List (Nat × List Rw × Nat) := [(0, k_83_0, 99999)]
set_option maxRecDepth 1000000 in
theorem ok_83 : bl_83.all (fun b => rowsB e_83 b.1 b.2.1 b.2.2) = true := by decide +kernel
-- FishGrader.time ()I
abbrev e_84 : MIt := (⟨"FishGrader", "time", "()I"⟩, prog_1_method_27_code, 1, (some .int), 0, 0, 7, 0)
def k_84_0 : List Rw := [(.aload_n 0, 1, 0, 0, .null, .int, 0), (.getfield 23, 4, 7, 4, .null, .boolean, 4), (.ifCond .eq 13, 7, 17, 0, .null, .int, 0), (.aload_n 0, 8, 0, 0, .null, .int, 0), (.getfield 40, 11, 7, 7, .null, (.object "FishGrader$State"), 7), (.getfield 188, 14, 5, 0, .null, .int, 37), (.goto 4, 17, 18, 0, .null, .int, 0)]
def k_84_17 : List Rw := [(.iconst 0, 18, 0, 0, .int (0), .int, 0)]
def k_84_18 : List Rw := [(.ireturn, 19, 0, 0, .null, .int, 0)]
def bl_84 : List (Nat × List Rw × Nat) := [(0, k_84_0, 99999), (17, k_84_17, 18), (18, k_84_18, 99999)]
set_option maxRecDepth 1000000 in
theorem ok_84 : bl_84.all (fun b => rowsB e_84 b.1 b.2.1 b.2.2) = true := by decide +kernel
-- FishGraderModel.time ()I
abbrev e_85 : MIt := (⟨"FishGraderModel", "time", "()I"⟩, prog_11_method_72_code, 1, (some .int), 1, 0, 8, 0)
def k_85_0 : List Rw := [(.aload_n 0, 1, 0, 0, .null, .int, 0), (.iconst 0, 2, 0, 0, .int (0), .int, 0), (.invokevirtual 279, 5, 201, 2, .ref 8, .int, 200), (.ireturn, 6, 0, 0, .null, .int, 0)]
def bl_85 : List (Nat × List Rw × Nat) := [(0, k_85_0, 99999)]
set_option maxRecDepth 1000000 in
theorem ok_85 : bl_85.all (fun b => rowsB e_85 b.1 b.2.1 b.2.2) = true := by decide +kernel
-- FishGraderLaw.worstBox (LFishGrader;I[J)I
abbrev e_86 : MIt := (⟨"FishGraderLaw", "worstBox", "(LFishGrader;I[J)I"⟩, method_18_code, 4, (some .int), 4, 3, 0, 3)
def k_86_0 : List Rw := [(.aload_n 2, 1, 2, 0, .null, .int, 0), (.iconst 0, 2, 0, 0, .int (0), .int, 0), (.aload_n 0, 3, 0, 0, .null, .int, 0), (.iload_n 1, 4, 1, 0, .null, .int, 0), (.invokevirtual 62, 7, 206, 2, .ref 7, .int, 205), (.i2l, 8, 0, 0, .null, .int, 0), (.lastore, 9, 0, 0, .null, .int, 0), (.goto 9, 12, 18, 0, .null, .int, 0)]
def k_86_13 : List Rw := [(.iconst 1, 14, 0, 0, .int (1), .int, 0), (.ireturn, 15, 0, 0, .null, .int, 0)]
def k_86_16 : List Rw := [(.iconst 2, 17, 0, 0, .int (2), .int, 0), (.ireturn, 18, 0, 0, .null, .int, 0)]
def k_86_18 : List Rw := [(.iconst 0, 19, 0, 0, .int (0), .int, 0), (.ireturn, 20, 0, 0, .null, .int, 0)]
def bl_86 : List (Nat × List Rw × Nat) := [(0, k_86_0, 99999), (13, k_86_13, 99999), (16, k_86_16, 99999), (18, k_86_18, 99999)]
set_option maxRecDepth 1000000 in
theorem ok_86 : bl_86.all (fun b => rowsB e_86 b.1 b.2.1 b.2.2) = true := by decide +kernel
-- FishGraderModel.worstBox (I)I
abbrev e_87 : MIt := (⟨"FishGraderModel", "worstBox", "(I)I"⟩, prog_11_method_71_code, 5, (some .int), 2, 0, 8, 1)
def k_87_0 : List Rw := [(.aload_n 0, 1, 0, 0, .null, .int, 0), (.aload_n 0, 2, 0, 0, .null, .int, 0), (.iload_n 1, 3, 1, 0, .null, .int, 0), (.invokevirtual 299, 6, 148, 2, .ref 8, .int, 147), (.invokevirtual 288, 9, 138, 2, .ref 8, .int, 137), (.ifCond .ne 5, 12, 14, 0, .null, .int, 0), (.iconst 0, 13, 0, 0, .int (0), .int, 0), (.ireturn, 14, 0, 0, .null, .int, 0)]
def k_87_14 : List Rw := [(.iconst 0, 15, 0, 0, .int (0), .int, 0), (.istore_n 2, 16, 2, 0, .null, .int, 0)]
def k_87_16 : List Rw := [(.iload_n 2, 17, 2, 0, .null, .int, 0), (.aload_n 0, 18, 0, 0, .null, .int, 0), (.getfield 30, 21, 8, 15, .null, (.array .int), 21), (.bipush 8, 23, 0, 0, .int (8), .int, 0), (.iaload, 24, 0, 0, .null, .int, 0), (.if_icmp .ge 101, 27, 125, 0, .null, .int, 0), (.iconst 0, 28, 0, 0, .int (0), .int, 0), (.istore_n 3, 29, 3, 0, .null, .int, 0), (.iconst 0, 30, 0, 0, .int (0), .int, 0), (.istore 4, 32, 4, 0, .null, .int, 0)]
def k_87_32 : List Rw := [(.iload 4, 34, 4, 0, .null, .int, 0), (.aload_n 0, 35, 0, 0, .null, .int, 0), (.getfield 30, 38, 8, 15, .null, (.array .int), 21), (.bipush 8, 40, 0, 0, .int (8), .int, 0), (.iaload, 41, 0, 0, .null, .int, 0), (.if_icmp .ge 71, 44, 112, 0, .null, .int, 0), (.iload_n 3, 45, 3, 0, .null, .int, 0), (.aload_n 0, 46, 0, 0, .null, .int, 0), (.getfield 30, 49, 8, 15, .null, (.array .int), 21), (.sipush 848, 52, 0, 0, .int (848), .int, 0), (.iload 4, 54, 4, 0, .null, .int, 0), (.iadd, 55, 0, 0, .null, .int, 0), (.iaload, 56, 0, 0, .null, .int, 0), (.aload_n 0, 57, 0, 0, .null, .int, 0), (.getfield 30, 60, 8, 15, .null, (.array .int), 21), (.sipush 848, 63, 0, 0, .int (848), .int, 0), (.iload_n 2, 64, 2, 0, .null, .int, 0), (.iadd, 65, 0, 0, .null, .int, 0), (.iaload, 66, 0, 0, .null, .int, 0), (.if_icmp .gt 33, 69, 99, 0, .null, .int, 0), (.aload_n 0, 70, 0, 0, .null, .int, 0), (.getfield 30, 73, 8, 15, .null, (.array .int), 21), (.sipush 848, 76, 0, 0, .int (848), .int, 0), (.iload 4, 78, 4, 0, .null, .int, 0), (.iadd, 79, 0, 0, .null, .int, 0), (.iaload, 80, 0, 0, .null, .int, 0), (.aload_n 0, 81, 0, 0, .null, .int, 0), (.getfield 30, 84, 8, 15, .null, (.array .int), 21), (.sipush 848, 87, 0, 0, .int (848), .int, 0), (.iload_n 2, 88, 2, 0, .null, .int, 0), (.iadd, 89, 0, 0, .null, .int, 0), (.iaload, 90, 0, 0, .null, .int, 0), (.if_icmp .ne 13, 93, 103, 0, .null, .int, 0), (.iload 4, 95, 4, 0, .null, .int, 0), (.iload_n 2, 96, 2, 0, .null, .int, 0), (.if_icmp .ge 7, 99, 103, 0, .null, .int, 0)]
def k_87_99 : List Rw := [(.iconst 1, 100, 0, 0, .int (1), .int, 0), (.goto 4, 103, 104, 0, .null, .int, 0)]
def k_87_103 : List Rw := [(.iconst 0, 104, 0, 0, .int (0), .int, 0)]
def k_87_104 : List Rw := [(.iadd, 105, 0, 0, .null, .int, 0), (.istore_n 3, 106, 3, 0, .null, .int, 0), (.iinc 4 1, 109, 4, 0, .int (1), .int, 0), (.goto (-77), 112, 32, 0, .null, .int, 0)]
def k_87_112 : List Rw := [(.iload_n 3, 113, 3, 0, .null, .int, 0), (.iload_n 1, 114, 1, 0, .null, .int, 0), (.if_icmp .ne 5, 117, 119, 0, .null, .int, 0), (.iload_n 2, 118, 2, 0, .null, .int, 0), (.ireturn, 119, 0, 0, .null, .int, 0)]
def k_87_119 : List Rw := [(.iinc 2 1, 122, 2, 0, .int (1), .int, 0), (.goto (-106), 125, 16, 0, .null, .int, 0)]
def k_87_125 : List Rw := [(.iconst (-1), 126, 0, 0, .int (-1), .int, 0), (.ireturn, 127, 0, 0, .null, .int, 0)]
def bl_87 : List (Nat × List Rw × Nat) := [(0, k_87_0, 99999), (14, k_87_14, 16), (16, k_87_16, 32), (32, k_87_32, 99), (99, k_87_99, 99999), (103, k_87_103, 104), (104, k_87_104, 99999), (112, k_87_112, 99999), (119, k_87_119, 99999), (125, k_87_125, 99999)]
set_option maxRecDepth 1000000 in
theorem ok_87 : bl_87.all (fun b => rowsB e_87 b.1 b.2.1 b.2.2) = true := by decide +kernel
-- FishGraderLaw.nextIced (LFishGrader;I[J)I
abbrev e_88 : MIt := (⟨"FishGraderLaw", "nextIced", "(LFishGrader;I[J)I"⟩, method_17_code, 4, (some .int), 2, 3, 0, 3)
def k_88_0 : List Rw := [(.aload_n 2, 1, 2, 0, .null, .int, 0), (.iconst 0, 2, 0, 0, .int (0), .int, 0), (.aload_n 0, 3, 0, 0, .null, .int, 0), (.iload_n 1, 4, 1, 0, .null, .int, 0), (.invokevirtual 59, 7, 207, 2, .ref 7, .int, 206), (.i2l, 8, 0, 0, .null, .int, 0), (.lastore, 9, 0, 0, .null, .int, 0), (.goto 9, 12, 18, 0, .null, .int, 0)]
def k_88_13 : List Rw := [(.iconst 1, 14, 0, 0, .int (1), .int, 0), (.ireturn, 15, 0, 0, .null, .int, 0)]
def k_88_16 : List Rw := [(.iconst 2, 17, 0, 0, .int (2), .int, 0), (.ireturn, 18, 0, 0, .null, .int, 0)]
def k_88_18 : List Rw := [(.iconst 0, 19, 0, 0, .int (0), .int, 0), (.ireturn, 20, 0, 0, .null, .int, 0)]
def bl_88 : List (Nat × List Rw × Nat) := [(0, k_88_0, 99999), (13, k_88_13, 99999), (16, k_88_16, 99999), (18, k_88_18, 99999)]
set_option maxRecDepth 1000000 in
theorem ok_88 : bl_88.all (fun b => rowsB e_88 b.1 b.2.1 b.2.2) = true := by decide +kernel
-- FishGraderModel.nextIced (I)I
abbrev e_89 : MIt := (⟨"FishGraderModel", "nextIced", "(I)I"⟩, prog_11_method_70_code, 4, (some .int), 2, 0, 8, 1)
def k_89_0 : List Rw := [(.aload_n 0, 1, 0, 0, .null, .int, 0), (.iconst 1, 2, 0, 0, .int (1), .int, 0), (.invokevirtual 288, 5, 138, 2, .ref 8, .int, 137), (.ifCond .ne 5, 8, 10, 0, .null, .int, 0), (.iconst 0, 9, 0, 0, .int (0), .int, 0), (.ireturn, 10, 0, 0, .null, .int, 0)]
def k_89_10 : List Rw := [(.iload_n 1, 11, 1, 0, .null, .int, 0), (.ifCond .ge 9, 14, 20, 0, .null, .int, 0), (.aload_n 0, 15, 0, 0, .null, .int, 0), (.iconst 2, 16, 0, 0, .int (2), .int, 0), (.invokevirtual 218, 19, 156, 2, .ref 8, .int, 155), (.ireturn, 20, 0, 0, .null, .int, 0)]
def k_89_20 : List Rw := [(.aload_n 0, 21, 0, 0, .null, .int, 0), (.getfield 30, 24, 8, 15, .null, (.array .int), 21), (.iconst (-1), 25, 0, 0, .int (-1), .int, 0), (.invokestatic 241, 28, 208, 2, .null, .int, 207), (.istore_n 2, 29, 2, 0, .null, .int, 0), (.iconst 0, 30, 0, 0, .int (0), .int, 0), (.istore_n 3, 31, 3, 0, .null, .int, 0)]
def k_89_31 : List Rw := [(.iload_n 3, 32, 3, 0, .null, .int, 0), (.iload_n 1, 33, 1, 0, .null, .int, 0), (.if_icmp .ge 23, 36, 56, 0, .null, .int, 0), (.iload_n 2, 37, 2, 0, .null, .int, 0), (.iconst (-1), 38, 0, 0, .int (-1), .int, 0), (.if_icmp .eq 18, 41, 56, 0, .null, .int, 0), (.aload_n 0, 42, 0, 0, .null, .int, 0), (.getfield 30, 45, 8, 15, .null, (.array .int), 21), (.iload_n 2, 46, 2, 0, .null, .int, 0), (.invokestatic 241, 49, 208, 2, .null, .int, 207), (.istore_n 2, 50, 2, 0, .null, .int, 0), (.iinc 3 1, 53, 3, 0, .int (1), .int, 0), (.goto (-22), 56, 31, 0, .null, .int, 0)]
def k_89_56 : List Rw := [(.iload_n 2, 57, 2, 0, .null, .int, 0), (.iconst (-1), 58, 0, 0, .int (-1), .int, 0), (.if_icmp .ne 11, 61, 69, 0, .null, .int, 0), (.aload_n 0, 62, 0, 0, .null, .int, 0), (.iconst 2, 63, 0, 0, .int (2), .int, 0), (.invokevirtual 218, 66, 156, 2, .ref 8, .int, 155), (.goto 4, 69, 70, 0, .null, .int, 0)]
def k_89_69 : List Rw := [(.iload_n 2, 70, 2, 0, .null, .int, 0)]
def k_89_70 : List Rw := [(.ireturn, 71, 0, 0, .null, .int, 0)]
def bl_89 : List (Nat × List Rw × Nat) := [(0, k_89_0, 99999), (10, k_89_10, 99999), (20, k_89_20, 31), (31, k_89_31, 99999), (56, k_89_56, 99999), (69, k_89_69, 70), (70, k_89_70, 99999)]
set_option maxRecDepth 1000000 in
theorem ok_89 : bl_89.all (fun b => rowsB e_89 b.1 b.2.1 b.2.2) = true := by decide +kernel
-- FishGraderLaw.icedAt (LFishGrader;I[J)I
abbrev e_90 : MIt := (⟨"FishGraderLaw", "icedAt", "(LFishGrader;I[J)I"⟩, method_16_code, 4, (some .int), 3, 3, 0, 3)
def k_90_0 : List Rw := [(.aload_n 2, 1, 2, 0, .null, .int, 0), (.iconst 0, 2, 0, 0, .int (0), .int, 0), (.aload_n 0, 3, 0, 0, .null, .int, 0), (.iload_n 1, 4, 1, 0, .null, .int, 0), (.invokevirtual 56, 7, 209, 2, .ref 7, .int, 208), (.i2l, 8, 0, 0, .null, .int, 0), (.lastore, 9, 0, 0, .null, .int, 0), (.goto 9, 12, 18, 0, .null, .int, 0)]
def k_90_13 : List Rw := [(.iconst 1, 14, 0, 0, .int (1), .int, 0), (.ireturn, 15, 0, 0, .null, .int, 0)]
def k_90_16 : List Rw := [(.iconst 2, 17, 0, 0, .int (2), .int, 0), (.ireturn, 18, 0, 0, .null, .int, 0)]
def k_90_18 : List Rw := [(.iconst 0, 19, 0, 0, .int (0), .int, 0), (.ireturn, 20, 0, 0, .null, .int, 0)]
def bl_90 : List (Nat × List Rw × Nat) := [(0, k_90_0, 99999), (13, k_90_13, 99999), (16, k_90_16, 99999), (18, k_90_18, 99999)]
set_option maxRecDepth 1000000 in
theorem ok_90 : bl_90.all (fun b => rowsB e_90 b.1 b.2.1 b.2.2) = true := by decide +kernel
-- FishGraderModel.icedAt (I)I
abbrev e_91 : MIt := (⟨"FishGraderModel", "icedAt", "(I)I"⟩, prog_11_method_69_code, 2, (some .int), 3, 0, 8, 1)
def k_91_0 : List Rw := [(.aload_n 0, 1, 0, 0, .null, .int, 0), (.iload_n 1, 2, 1, 0, .null, .int, 0), (.sipush 1088, 5, 0, 0, .int (1088), .int, 0), (.invokevirtual 302, 8, 210, 3, .ref 8, .int, 209), (.ireturn, 9, 0, 0, .null, .int, 0)]
def bl_91 : List (Nat × List Rw × Nat) := [(0, k_91_0, 99999)]
set_option maxRecDepth 1000000 in
theorem ok_91 : bl_91.all (fun b => rowsB e_91 b.1 b.2.1 b.2.2) = true := by decide +kernel
-- FishGraderLaw.closedAt (LFishGrader;I[J)I
abbrev e_92 : MIt := (⟨"FishGraderLaw", "closedAt", "(LFishGrader;I[J)I"⟩, method_15_code, 4, (some .int), 3, 3, 0, 3)
def k_92_0 : List Rw := [(.aload_n 2, 1, 2, 0, .null, .int, 0), (.iconst 0, 2, 0, 0, .int (0), .int, 0), (.aload_n 0, 3, 0, 0, .null, .int, 0), (.iload_n 1, 4, 1, 0, .null, .int, 0), (.invokevirtual 53, 7, 211, 2, .ref 7, .int, 210), (.i2l, 8, 0, 0, .null, .int, 0), (.lastore, 9, 0, 0, .null, .int, 0), (.goto 9, 12, 18, 0, .null, .int, 0)]
def k_92_13 : List Rw := [(.iconst 1, 14, 0, 0, .int (1), .int, 0), (.ireturn, 15, 0, 0, .null, .int, 0)]
def k_92_16 : List Rw := [(.iconst 2, 17, 0, 0, .int (2), .int, 0), (.ireturn, 18, 0, 0, .null, .int, 0)]
def k_92_18 : List Rw := [(.iconst 0, 19, 0, 0, .int (0), .int, 0), (.ireturn, 20, 0, 0, .null, .int, 0)]
def bl_92 : List (Nat × List Rw × Nat) := [(0, k_92_0, 99999), (13, k_92_13, 99999), (16, k_92_16, 99999), (18, k_92_18, 99999)]
set_option maxRecDepth 1000000 in
theorem ok_92 : bl_92.all (fun b => rowsB e_92 b.1 b.2.1 b.2.2) = true := by decide +kernel
-- FishGraderModel.closedAt (I)I
abbrev e_93 : MIt := (⟨"FishGraderModel", "closedAt", "(I)I"⟩, prog_11_method_68_code, 2, (some .int), 3, 0, 8, 1)
def k_93_0 : List Rw := [(.aload_n 0, 1, 0, 0, .null, .int, 0), (.iload_n 1, 2, 1, 0, .null, .int, 0), (.sipush 928, 5, 0, 0, .int (928), .int, 0), (.invokevirtual 302, 8, 210, 3, .ref 8, .int, 209), (.ireturn, 9, 0, 0, .null, .int, 0)]
def bl_93 : List (Nat × List Rw × Nat) := [(0, k_93_0, 99999)]
set_option maxRecDepth 1000000 in
theorem ok_93 : bl_93.all (fun b => rowsB e_93 b.1 b.2.1 b.2.2) = true := by decide +kernel
-- FishGraderLaw.giveaway (LFishGrader;I[J)I
abbrev e_94 : MIt := (⟨"FishGraderLaw", "giveaway", "(LFishGrader;I[J)I"⟩, method_14_code, 4, (some .int), 3, 3, 0, 3)
def k_94_0 : List Rw := [(.aload_n 2, 1, 2, 0, .null, .int, 0), (.iconst 0, 2, 0, 0, .int (0), .int, 0), (.aload_n 0, 3, 0, 0, .null, .int, 0), (.iload_n 1, 4, 1, 0, .null, .int, 0), (.invokevirtual 50, 7, 212, 2, .ref 7, .int, 211), (.i2l, 8, 0, 0, .null, .int, 0), (.lastore, 9, 0, 0, .null, .int, 0), (.goto 9, 12, 18, 0, .null, .int, 0)]
def k_94_13 : List Rw := [(.iconst 1, 14, 0, 0, .int (1), .int, 0), (.ireturn, 15, 0, 0, .null, .int, 0)]
def k_94_16 : List Rw := [(.iconst 2, 17, 0, 0, .int (2), .int, 0), (.ireturn, 18, 0, 0, .null, .int, 0)]
def k_94_18 : List Rw := [(.iconst 0, 19, 0, 0, .int (0), .int, 0), (.ireturn, 20, 0, 0, .null, .int, 0)]
def bl_94 : List (Nat × List Rw × Nat) := [(0, k_94_0, 99999), (13, k_94_13, 99999), (16, k_94_16, 99999), (18, k_94_18, 99999)]
set_option maxRecDepth 1000000 in
theorem ok_94 : bl_94.all (fun b => rowsB e_94 b.1 b.2.1 b.2.2) = true := by decide +kernel
-- FishGraderModel.giveaway (I)I
abbrev e_95 : MIt := (⟨"FishGraderModel", "giveaway", "(I)I"⟩, prog_11_method_67_code, 2, (some .int), 3, 0, 8, 1)
def k_95_0 : List Rw := [(.aload_n 0, 1, 0, 0, .null, .int, 0), (.iload_n 1, 2, 1, 0, .null, .int, 0), (.sipush 848, 5, 0, 0, .int (848), .int, 0), (.invokevirtual 302, 8, 210, 3, .ref 8, .int, 209), (.ireturn, 9, 0, 0, .null, .int, 0)]
def bl_95 : List (Nat × List Rw × Nat) := [(0, k_95_0, 99999)]
set_option maxRecDepth 1000000 in
theorem ok_95 : bl_95.all (fun b => rowsB e_95 b.1 b.2.1 b.2.2) = true := by decide +kernel
-- FishGraderLaw.closedWeight (LFishGrader;I[J)I
abbrev e_96 : MIt := (⟨"FishGraderLaw", "closedWeight", "(LFishGrader;I[J)I"⟩, method_13_code, 4, (some .int), 3, 3, 0, 3)
def k_96_0 : List Rw := [(.aload_n 2, 1, 2, 0, .null, .int, 0), (.iconst 0, 2, 0, 0, .int (0), .int, 0), (.aload_n 0, 3, 0, 0, .null, .int, 0), (.iload_n 1, 4, 1, 0, .null, .int, 0), (.invokevirtual 47, 7, 213, 2, .ref 7, .int, 212), (.i2l, 8, 0, 0, .null, .int, 0), (.lastore, 9, 0, 0, .null, .int, 0), (.goto 9, 12, 18, 0, .null, .int, 0)]
def k_96_13 : List Rw := [(.iconst 1, 14, 0, 0, .int (1), .int, 0), (.ireturn, 15, 0, 0, .null, .int, 0)]
def k_96_16 : List Rw := [(.iconst 2, 17, 0, 0, .int (2), .int, 0), (.ireturn, 18, 0, 0, .null, .int, 0)]
def k_96_18 : List Rw := [(.iconst 0, 19, 0, 0, .int (0), .int, 0), (.ireturn, 20, 0, 0, .null, .int, 0)]
def bl_96 : List (Nat × List Rw × Nat) := [(0, k_96_0, 99999), (13, k_96_13, 99999), (16, k_96_16, 99999), (18, k_96_18, 99999)]
set_option maxRecDepth 1000000 in
theorem ok_96 : bl_96.all (fun b => rowsB e_96 b.1 b.2.1 b.2.2) = true := by decide +kernel
-- FishGraderModel.closedWeight (I)I
abbrev e_97 : MIt := (⟨"FishGraderModel", "closedWeight", "(I)I"⟩, prog_11_method_66_code, 2, (some .int), 3, 0, 8, 1)
def k_97_0 : List Rw := [(.aload_n 0, 1, 0, 0, .null, .int, 0), (.iload_n 1, 2, 1, 0, .null, .int, 0), (.sipush 768, 5, 0, 0, .int (768), .int, 0), (.invokevirtual 302, 8, 210, 3, .ref 8, .int, 209), (.ireturn, 9, 0, 0, .null, .int, 0)]
def bl_97 : List (Nat × List Rw × Nat) := [(0, k_97_0, 99999)]
set_option maxRecDepth 1000000 in
theorem ok_97 : bl_97.all (fun b => rowsB e_97 b.1 b.2.1 b.2.2) = true := by decide +kernel
-- FishGraderLaw.closedSpecies (LFishGrader;I[J)I
abbrev e_98 : MIt := (⟨"FishGraderLaw", "closedSpecies", "(LFishGrader;I[J)I"⟩, method_12_code, 4, (some .int), 3, 3, 0, 3)
def k_98_0 : List Rw := [(.aload_n 2, 1, 2, 0, .null, .int, 0), (.iconst 0, 2, 0, 0, .int (0), .int, 0), (.aload_n 0, 3, 0, 0, .null, .int, 0), (.iload_n 1, 4, 1, 0, .null, .int, 0), (.invokevirtual 44, 7, 214, 2, .ref 7, .int, 213), (.i2l, 8, 0, 0, .null, .int, 0), (.lastore, 9, 0, 0, .null, .int, 0), (.goto 9, 12, 18, 0, .null, .int, 0)]
def k_98_13 : List Rw := [(.iconst 1, 14, 0, 0, .int (1), .int, 0), (.ireturn, 15, 0, 0, .null, .int, 0)]
def k_98_16 : List Rw := [(.iconst 2, 17, 0, 0, .int (2), .int, 0), (.ireturn, 18, 0, 0, .null, .int, 0)]
def k_98_18 : List Rw := [(.iconst 0, 19, 0, 0, .int (0), .int, 0), (.ireturn, 20, 0, 0, .null, .int, 0)]
def bl_98 : List (Nat × List Rw × Nat) := [(0, k_98_0, 99999), (13, k_98_13, 99999), (16, k_98_16, 99999), (18, k_98_18, 99999)]
set_option maxRecDepth 1000000 in
theorem ok_98 : bl_98.all (fun b => rowsB e_98 b.1 b.2.1 b.2.2) = true := by decide +kernel
-- FishGraderModel.closedSpecies (I)I
abbrev e_99 : MIt := (⟨"FishGraderModel", "closedSpecies", "(I)I"⟩, prog_11_method_65_code, 2, (some .int), 3, 0, 8, 1)
def k_99_0 : List Rw := [(.aload_n 0, 1, 0, 0, .null, .int, 0), (.iload_n 1, 2, 1, 0, .null, .int, 0), (.sipush 688, 5, 0, 0, .int (688), .int, 0), (.invokevirtual 302, 8, 210, 3, .ref 8, .int, 209), (.ireturn, 9, 0, 0, .null, .int, 0)]
def bl_99 : List (Nat × List Rw × Nat) := [(0, k_99_0, 99999)]
set_option maxRecDepth 1000000 in
theorem ok_99 : bl_99.all (fun b => rowsB e_99 b.1 b.2.1 b.2.2) = true := by decide +kernel
-- FishGrader.closed ()I
abbrev e_100 : MIt := (⟨"FishGrader", "closed", "()I"⟩, prog_1_method_19_code, 1, (some .int), 0, 0, 7, 0)
def k_100_0 : List Rw := [(.aload_n 0, 1, 0, 0, .null, .int, 0), (.getfield 23, 4, 7, 4, .null, .boolean, 4), (.ifCond .eq 16, 7, 20, 0, .null, .int, 0), (.aload_n 0, 8, 0, 0, .null, .int, 0), (.getfield 40, 11, 7, 7, .null, (.object "FishGrader$State"), 7), (.getfield 156, 14, 5, 13, .null, (.object "FishGrader$Boxes"), 38), (.getfield 160, 17, 0, 0, .null, .int, 39), (.goto 4, 20, 21, 0, .null, .int, 0)]
def k_100_20 : List Rw := [(.iconst 0, 21, 0, 0, .int (0), .int, 0)]
def k_100_21 : List Rw := [(.ireturn, 22, 0, 0, .null, .int, 0)]
def bl_100 : List (Nat × List Rw × Nat) := [(0, k_100_0, 99999), (20, k_100_20, 21), (21, k_100_21, 99999)]
set_option maxRecDepth 1000000 in
theorem ok_100 : bl_100.all (fun b => rowsB e_100 b.1 b.2.1 b.2.2) = true := by decide +kernel
-- FishGraderModel.closed ()I
abbrev e_101 : MIt := (⟨"FishGraderModel", "closed", "()I"⟩, prog_11_method_63_code, 1, (some .int), 1, 0, 8, 0)
def k_101_0 : List Rw := [(.aload_n 0, 1, 0, 0, .null, .int, 0), (.bipush 8, 3, 0, 0, .int (8), .int, 0), (.invokevirtual 279, 6, 201, 2, .ref 8, .int, 200), (.ireturn, 7, 0, 0, .null, .int, 0)]
def bl_101 : List (Nat × List Rw × Nat) := [(0, k_101_0, 99999)]
set_option maxRecDepth 1000000 in
theorem ok_101 : bl_101.all (fun b => rowsB e_101 b.1 b.2.1 b.2.2) = true := by decide +kernel
-- FishGraderLaw.itemsIn (LFishGrader;II[J)I
abbrev e_102 : MIt := (⟨"FishGraderLaw", "itemsIn", "(LFishGrader;II[J)I"⟩, method_11_code, 5, (some .int), 4, 3, 0, 4)
def k_102_0 : List Rw := [(.aload_n 3, 1, 3, 0, .null, .int, 0), (.iconst 0, 2, 0, 0, .int (0), .int, 0), (.aload_n 0, 3, 0, 0, .null, .int, 0), (.iload_n 1, 4, 1, 0, .null, .int, 0), (.iload_n 2, 5, 2, 0, .null, .int, 0), (.invokevirtual 41, 8, 215, 3, .ref 7, .int, 214), (.i2l, 9, 0, 0, .null, .int, 0), (.lastore, 10, 0, 0, .null, .int, 0), (.goto 11, 13, 21, 0, .null, .int, 0)]
def k_102_15 : List Rw := [(.iconst 1, 16, 0, 0, .int (1), .int, 0), (.ireturn, 17, 0, 0, .null, .int, 0)]
def k_102_19 : List Rw := [(.iconst 2, 20, 0, 0, .int (2), .int, 0), (.ireturn, 21, 0, 0, .null, .int, 0)]
def k_102_21 : List Rw := [(.iconst 0, 22, 0, 0, .int (0), .int, 0), (.ireturn, 23, 0, 0, .null, .int, 0)]
def bl_102 : List (Nat × List Rw × Nat) := [(0, k_102_0, 99999), (15, k_102_15, 99999), (19, k_102_19, 99999), (21, k_102_21, 99999)]
set_option maxRecDepth 1000000 in
theorem ok_102 : bl_102.all (fun b => rowsB e_102 b.1 b.2.1 b.2.2) = true := by decide +kernel
-- FishGraderModel.itemsIn (II)I
abbrev e_103 : MIt := (⟨"FishGraderModel", "itemsIn", "(II)I"⟩, prog_11_method_62_code, 5, (some .int), 3, 0, 8, 2)
def k_103_0 : List Rw := [(.aload_n 0, 1, 0, 0, .null, .int, 0), (.aload_n 0, 2, 0, 0, .null, .int, 0), (.iload_n 1, 3, 1, 0, .null, .int, 0), (.iload_n 2, 4, 2, 0, .null, .int, 0), (.invokevirtual 295, 7, 166, 3, .ref 8, .int, 165), (.invokevirtual 288, 10, 138, 2, .ref 8, .int, 137), (.ifCond .ne 5, 13, 15, 0, .null, .int, 0), (.iconst 0, 14, 0, 0, .int (0), .int, 0), (.ireturn, 15, 0, 0, .null, .int, 0)]
def k_103_15 : List Rw := [(.iconst 0, 16, 0, 0, .int (0), .int, 0), (.istore_n 3, 17, 3, 0, .null, .int, 0), (.iconst 0, 18, 0, 0, .int (0), .int, 0), (.istore 4, 20, 4, 0, .null, .int, 0)]
def k_103_20 : List Rw := [(.iload 4, 22, 4, 0, .null, .int, 0), (.aload_n 0, 23, 0, 0, .null, .int, 0), (.getfield 30, 26, 8, 15, .null, (.array .int), 21), (.bipush 9, 28, 0, 0, .int (9), .int, 0), (.iaload, 29, 0, 0, .null, .int, 0), (.if_icmp .ge 61, 32, 90, 0, .null, .int, 0), (.iload_n 3, 33, 3, 0, .null, .int, 0), (.aload_n 0, 34, 0, 0, .null, .int, 0), (.getfield 30, 37, 8, 15, .null, (.array .int), 21), (.bipush 48, 39, 0, 0, .int (48), .int, 0), (.iload 4, 41, 4, 0, .null, .int, 0), (.iadd, 42, 0, 0, .null, .int, 0), (.iaload, 43, 0, 0, .null, .int, 0), (.iconst 4, 44, 0, 0, .int (4), .int, 0), (.if_icmp .ne 37, 47, 81, 0, .null, .int, 0), (.aload_n 0, 48, 0, 0, .null, .int, 0), (.getfield 30, 51, 8, 15, .null, (.array .int), 21), (.sipush 288, 54, 0, 0, .int (288), .int, 0), (.iload 4, 56, 4, 0, .null, .int, 0), (.iadd, 57, 0, 0, .null, .int, 0), (.iaload, 58, 0, 0, .null, .int, 0), (.iload_n 1, 59, 1, 0, .null, .int, 0), (.if_icmp .ne 22, 62, 81, 0, .null, .int, 0), (.aload_n 0, 63, 0, 0, .null, .int, 0), (.getfield 30, 66, 8, 15, .null, (.array .int), 21), (.sipush 128, 69, 0, 0, .int (128), .int, 0), (.iload 4, 71, 4, 0, .null, .int, 0), (.iadd, 72, 0, 0, .null, .int, 0), (.iaload, 73, 0, 0, .null, .int, 0), (.iload_n 2, 74, 2, 0, .null, .int, 0), (.if_icmp .ne 7, 77, 81, 0, .null, .int, 0), (.iconst 1, 78, 0, 0, .int (1), .int, 0), (.goto 4, 81, 82, 0, .null, .int, 0)]
def k_103_81 : List Rw := [(.iconst 0, 82, 0, 0, .int (0), .int, 0)]
def k_103_82 : List Rw := [(.iadd, 83, 0, 0, .null, .int, 0), (.istore_n 3, 84, 3, 0, .null, .int, 0), (.iinc 4 1, 87, 4, 0, .int (1), .int, 0), (.goto (-67), 90, 20, 0, .null, .int, 0)]
def k_103_90 : List Rw := [(.iload_n 3, 91, 3, 0, .null, .int, 0), (.ireturn, 92, 0, 0, .null, .int, 0)]
def bl_103 : List (Nat × List Rw × Nat) := [(0, k_103_0, 99999), (15, k_103_15, 20), (20, k_103_20, 99999), (81, k_103_81, 82), (82, k_103_82, 99999), (90, k_103_90, 99999)]
set_option maxRecDepth 1000000 in
theorem ok_103 : bl_103.all (fun b => rowsB e_103 b.1 b.2.1 b.2.2) = true := by decide +kernel
-- FishGraderLaw.content (LFishGrader;II[J)I
abbrev e_104 : MIt := (⟨"FishGraderLaw", "content", "(LFishGrader;II[J)I"⟩, method_10_code, 5, (some .int), 4, 3, 0, 4)
def k_104_0 : List Rw := [(.aload_n 3, 1, 3, 0, .null, .int, 0), (.iconst 0, 2, 0, 0, .int (0), .int, 0), (.aload_n 0, 3, 0, 0, .null, .int, 0), (.iload_n 1, 4, 1, 0, .null, .int, 0), (.iload_n 2, 5, 2, 0, .null, .int, 0), (.invokevirtual 38, 8, 216, 3, .ref 7, .int, 215), (.i2l, 9, 0, 0, .null, .int, 0), (.lastore, 10, 0, 0, .null, .int, 0), (.goto 11, 13, 21, 0, .null, .int, 0)]
def k_104_15 : List Rw := [(.iconst 1, 16, 0, 0, .int (1), .int, 0), (.ireturn, 17, 0, 0, .null, .int, 0)]
def k_104_19 : List Rw := [(.iconst 2, 20, 0, 0, .int (2), .int, 0), (.ireturn, 21, 0, 0, .null, .int, 0)]
def k_104_21 : List Rw := [(.iconst 0, 22, 0, 0, .int (0), .int, 0), (.ireturn, 23, 0, 0, .null, .int, 0)]
def bl_104 : List (Nat × List Rw × Nat) := [(0, k_104_0, 99999), (15, k_104_15, 99999), (19, k_104_19, 99999), (21, k_104_21, 99999)]
set_option maxRecDepth 1000000 in
theorem ok_104 : bl_104.all (fun b => rowsB e_104 b.1 b.2.1 b.2.2) = true := by decide +kernel
-- FishGraderModel.content (II)I
abbrev e_105 : MIt := (⟨"FishGraderModel", "content", "(II)I"⟩, prog_11_method_61_code, 3, (some .int), 3, 0, 8, 2)
def k_105_0 : List Rw := [(.aload_n 0, 1, 0, 0, .null, .int, 0), (.aload_n 0, 2, 0, 0, .null, .int, 0), (.iload_n 1, 3, 1, 0, .null, .int, 0), (.iload_n 2, 4, 2, 0, .null, .int, 0), (.invokevirtual 295, 7, 166, 3, .ref 8, .int, 165), (.invokevirtual 288, 10, 138, 2, .ref 8, .int, 137), (.ifCond .eq 16, 13, 26, 0, .null, .int, 0), (.aload_n 0, 14, 0, 0, .null, .int, 0), (.getfield 30, 17, 8, 15, .null, (.array .int), 21), (.iload_n 1, 18, 1, 0, .null, .int, 0), (.iload_n 2, 19, 2, 0, .null, .int, 0), (.invokestatic 248, 22, 172, 2, .null, .int, 171), (.iaload, 23, 0, 0, .null, .int, 0), (.goto 4, 26, 27, 0, .null, .int, 0)]
def k_105_26 : List Rw := [(.iconst 0, 27, 0, 0, .int (0), .int, 0)]
def k_105_27 : List Rw := [(.ireturn, 28, 0, 0, .null, .int, 0)]
def bl_105 : List (Nat × List Rw × Nat) := [(0, k_105_0, 99999), (26, k_105_26, 27), (27, k_105_27, 99999)]
set_option maxRecDepth 1000000 in
theorem ok_105 : bl_105.all (fun b => rowsB e_105 b.1 b.2.1 b.2.2) = true := by decide +kernel
-- FishGraderLaw.agreement (LFishGrader;I[J)I
abbrev e_106 : MIt := (⟨"FishGraderLaw", "agreement", "(LFishGrader;I[J)I"⟩, method_9_code, 4, (some .int), 4, 3, 0, 3)
def k_106_0 : List Rw := [(.aload_n 2, 1, 2, 0, .null, .int, 0), (.iconst 0, 2, 0, 0, .int (0), .int, 0), (.aload_n 0, 3, 0, 0, .null, .int, 0), (.iload_n 1, 4, 1, 0, .null, .int, 0), (.invokevirtual 35, 7, 217, 2, .ref 7, .int, 216), (.i2l, 8, 0, 0, .null, .int, 0), (.lastore, 9, 0, 0, .null, .int, 0), (.goto 9, 12, 18, 0, .null, .int, 0)]
def k_106_13 : List Rw := [(.iconst 1, 14, 0, 0, .int (1), .int, 0), (.ireturn, 15, 0, 0, .null, .int, 0)]
def k_106_16 : List Rw := [(.iconst 2, 17, 0, 0, .int (2), .int, 0), (.ireturn, 18, 0, 0, .null, .int, 0)]
def k_106_18 : List Rw := [(.iconst 0, 19, 0, 0, .int (0), .int, 0), (.ireturn, 20, 0, 0, .null, .int, 0)]
def bl_106 : List (Nat × List Rw × Nat) := [(0, k_106_0, 99999), (13, k_106_13, 99999), (16, k_106_16, 99999), (18, k_106_18, 99999)]
set_option maxRecDepth 1000000 in
theorem ok_106 : bl_106.all (fun b => rowsB e_106 b.1 b.2.1 b.2.2) = true := by decide +kernel
-- FishGraderModel.agreement (I)I
abbrev e_107 : MIt := (⟨"FishGraderModel", "agreement", "(I)I"⟩, prog_11_method_60_code, 2, (some .int), 2, 0, 8, 1)
def k_107_0 : List Rw := [(.aload_n 0, 1, 0, 0, .null, .int, 0), (.aload_n 0, 2, 0, 0, .null, .int, 0), (.iload_n 1, 3, 1, 0, .null, .int, 0), (.invokevirtual 285, 6, 218, 2, .ref 8, .int, 217), (.invokevirtual 288, 9, 138, 2, .ref 8, .int, 137), (.ifCond .eq 21, 12, 30, 0, .null, .int, 0), (.aload_n 0, 13, 0, 0, .null, .int, 0), (.getfield 30, 16, 8, 15, .null, (.array .int), 21), (.iload_n 1, 17, 1, 0, .null, .int, 0), (.aload_n 0, 18, 0, 0, .null, .int, 0), (.getfield 17, 21, 8, 11, .null, (.array .int), 17), (.bipush 7, 23, 0, 0, .int (7), .int, 0), (.iaload, 24, 0, 0, .null, .int, 0), (.invokestatic 205, 27, 219, 3, .null, .int, 218), (.goto 4, 30, 31, 0, .null, .int, 0)]
def k_107_30 : List Rw := [(.iconst 0, 31, 0, 0, .int (0), .int, 0)]
def k_107_31 : List Rw := [(.ireturn, 32, 0, 0, .null, .int, 0)]
def bl_107 : List (Nat × List Rw × Nat) := [(0, k_107_0, 99999), (30, k_107_30, 31), (31, k_107_31, 99999)]
set_option maxRecDepth 1000000 in
theorem ok_107 : bl_107.all (fun b => rowsB e_107 b.1 b.2.1 b.2.2) = true := by decide +kernel
-- FishGraderLaw.boxOf (LFishGrader;I[J)I
abbrev e_108 : MIt := (⟨"FishGraderLaw", "boxOf", "(LFishGrader;I[J)I"⟩, method_8_code, 4, (some .int), 3, 3, 0, 3)
def k_108_0 : List Rw := [(.aload_n 2, 1, 2, 0, .null, .int, 0), (.iconst 0, 2, 0, 0, .int (0), .int, 0), (.aload_n 0, 3, 0, 0, .null, .int, 0), (.iload_n 1, 4, 1, 0, .null, .int, 0), (.invokevirtual 32, 7, 220, 2, .ref 7, .int, 219), (.i2l, 8, 0, 0, .null, .int, 0), (.lastore, 9, 0, 0, .null, .int, 0), (.goto 9, 12, 18, 0, .null, .int, 0)]
def k_108_13 : List Rw := [(.iconst 1, 14, 0, 0, .int (1), .int, 0), (.ireturn, 15, 0, 0, .null, .int, 0)]
def k_108_16 : List Rw := [(.iconst 2, 17, 0, 0, .int (2), .int, 0), (.ireturn, 18, 0, 0, .null, .int, 0)]
def k_108_18 : List Rw := [(.iconst 0, 19, 0, 0, .int (0), .int, 0), (.ireturn, 20, 0, 0, .null, .int, 0)]
def bl_108 : List (Nat × List Rw × Nat) := [(0, k_108_0, 99999), (13, k_108_13, 99999), (16, k_108_16, 99999), (18, k_108_18, 99999)]
set_option maxRecDepth 1000000 in
theorem ok_108 : bl_108.all (fun b => rowsB e_108 b.1 b.2.1 b.2.2) = true := by decide +kernel
-- FishGraderModel.boxOf (I)I
abbrev e_109 : MIt := (⟨"FishGraderModel", "boxOf", "(I)I"⟩, prog_11_method_59_code, 2, (some .int), 2, 0, 8, 1)
def k_109_0 : List Rw := [(.aload_n 0, 1, 0, 0, .null, .int, 0), (.aload_n 0, 2, 0, 0, .null, .int, 0), (.iload_n 1, 3, 1, 0, .null, .int, 0), (.invokevirtual 285, 6, 218, 2, .ref 8, .int, 217), (.invokevirtual 288, 9, 138, 2, .ref 8, .int, 137), (.ifCond .ne 5, 12, 14, 0, .null, .int, 0), (.iconst 0, 13, 0, 0, .int (0), .int, 0), (.ireturn, 14, 0, 0, .null, .int, 0)]
def k_109_14 : List Rw := [(.aload_n 0, 15, 0, 0, .null, .int, 0), (.getfield 30, 18, 8, 15, .null, (.array .int), 21), (.bipush 48, 20, 0, 0, .int (48), .int, 0), (.iload_n 1, 21, 1, 0, .null, .int, 0), (.iadd, 22, 0, 0, .null, .int, 0), (.iaload, 23, 0, 0, .null, .int, 0), (.iconst 4, 24, 0, 0, .int (4), .int, 0), (.if_icmp .lt 16, 27, 40, 0, .null, .int, 0), (.aload_n 0, 28, 0, 0, .null, .int, 0), (.getfield 30, 31, 8, 15, .null, (.array .int), 21), (.sipush 128, 34, 0, 0, .int (128), .int, 0), (.iload_n 1, 35, 1, 0, .null, .int, 0), (.iadd, 36, 0, 0, .null, .int, 0), (.iaload, 37, 0, 0, .null, .int, 0), (.goto 4, 40, 41, 0, .null, .int, 0)]
def k_109_40 : List Rw := [(.iconst (-1), 41, 0, 0, .int (-1), .int, 0)]
def k_109_41 : List Rw := [(.ireturn, 42, 0, 0, .null, .int, 0)]
def bl_109 : List (Nat × List Rw × Nat) := [(0, k_109_0, 99999), (14, k_109_14, 99999), (40, k_109_40, 41), (41, k_109_41, 99999)]
set_option maxRecDepth 1000000 in
theorem ok_109 : bl_109.all (fun b => rowsB e_109 b.1 b.2.1 b.2.2) = true := by decide +kernel
-- FishGraderLaw.stateOf (LFishGrader;I[J)I
abbrev e_110 : MIt := (⟨"FishGraderLaw", "stateOf", "(LFishGrader;I[J)I"⟩, method_7_code, 4, (some .int), 3, 3, 0, 3)
def k_110_0 : List Rw := [(.aload_n 2, 1, 2, 0, .null, .int, 0), (.iconst 0, 2, 0, 0, .int (0), .int, 0), (.aload_n 0, 3, 0, 0, .null, .int, 0), (.iload_n 1, 4, 1, 0, .null, .int, 0), (.invokevirtual 29, 7, 221, 2, .ref 7, .int, 220), (.i2l, 8, 0, 0, .null, .int, 0), (.lastore, 9, 0, 0, .null, .int, 0), (.goto 9, 12, 18, 0, .null, .int, 0)]
def k_110_13 : List Rw := [(.iconst 1, 14, 0, 0, .int (1), .int, 0), (.ireturn, 15, 0, 0, .null, .int, 0)]
def k_110_16 : List Rw := [(.iconst 2, 17, 0, 0, .int (2), .int, 0), (.ireturn, 18, 0, 0, .null, .int, 0)]
def k_110_18 : List Rw := [(.iconst 0, 19, 0, 0, .int (0), .int, 0), (.ireturn, 20, 0, 0, .null, .int, 0)]
def bl_110 : List (Nat × List Rw × Nat) := [(0, k_110_0, 99999), (13, k_110_13, 99999), (16, k_110_16, 99999), (18, k_110_18, 99999)]
set_option maxRecDepth 1000000 in
theorem ok_110 : bl_110.all (fun b => rowsB e_110 b.1 b.2.1 b.2.2) = true := by decide +kernel
-- FishGraderModel.stateOf (I)I
abbrev e_111 : MIt := (⟨"FishGraderModel", "stateOf", "(I)I"⟩, prog_11_method_58_code, 2, (some .int), 3, 0, 8, 1)
def k_111_0 : List Rw := [(.aload_n 0, 1, 0, 0, .null, .int, 0), (.iload_n 1, 2, 1, 0, .null, .int, 0), (.bipush 48, 4, 0, 0, .int (48), .int, 0), (.invokevirtual 292, 7, 222, 3, .ref 8, .int, 221), (.ireturn, 8, 0, 0, .null, .int, 0)]
def bl_111 : List (Nat × List Rw × Nat) := [(0, k_111_0, 99999)]
set_option maxRecDepth 1000000 in
theorem ok_111 : bl_111.all (fun b => rowsB e_111 b.1 b.2.1 b.2.2) = true := by decide +kernel
-- FishGraderLaw.speciesOf (LFishGrader;I[J)I
abbrev e_112 : MIt := (⟨"FishGraderLaw", "speciesOf", "(LFishGrader;I[J)I"⟩, method_6_code, 4, (some .int), 3, 3, 0, 3)
def k_112_0 : List Rw := [(.aload_n 2, 1, 2, 0, .null, .int, 0), (.iconst 0, 2, 0, 0, .int (0), .int, 0), (.aload_n 0, 3, 0, 0, .null, .int, 0), (.iload_n 1, 4, 1, 0, .null, .int, 0), (.invokevirtual 26, 7, 223, 2, .ref 7, .int, 222), (.i2l, 8, 0, 0, .null, .int, 0), (.lastore, 9, 0, 0, .null, .int, 0), (.goto 9, 12, 18, 0, .null, .int, 0)]
def k_112_13 : List Rw := [(.iconst 1, 14, 0, 0, .int (1), .int, 0), (.ireturn, 15, 0, 0, .null, .int, 0)]
def k_112_16 : List Rw := [(.iconst 2, 17, 0, 0, .int (2), .int, 0), (.ireturn, 18, 0, 0, .null, .int, 0)]
def k_112_18 : List Rw := [(.iconst 0, 19, 0, 0, .int (0), .int, 0), (.ireturn, 20, 0, 0, .null, .int, 0)]
def bl_112 : List (Nat × List Rw × Nat) := [(0, k_112_0, 99999), (13, k_112_13, 99999), (16, k_112_16, 99999), (18, k_112_18, 99999)]
set_option maxRecDepth 1000000 in
theorem ok_112 : bl_112.all (fun b => rowsB e_112 b.1 b.2.1 b.2.2) = true := by decide +kernel
-- FishGraderModel.speciesOf (I)I
abbrev e_113 : MIt := (⟨"FishGraderModel", "speciesOf", "(I)I"⟩, prog_11_method_57_code, 2, (some .int), 3, 0, 8, 1)
def k_113_0 : List Rw := [(.aload_n 0, 1, 0, 0, .null, .int, 0), (.iload_n 1, 2, 1, 0, .null, .int, 0), (.sipush 288, 5, 0, 0, .int (288), .int, 0), (.invokevirtual 292, 8, 222, 3, .ref 8, .int, 221), (.ireturn, 9, 0, 0, .null, .int, 0)]
def bl_113 : List (Nat × List Rw × Nat) := [(0, k_113_0, 99999)]
set_option maxRecDepth 1000000 in
theorem ok_113 : bl_113.all (fun b => rowsB e_113 b.1 b.2.1 b.2.2) = true := by decide +kernel
-- FishGraderLaw.score (LFishGrader;II[J)I
abbrev e_114 : MIt := (⟨"FishGraderLaw", "score", "(LFishGrader;II[J)I"⟩, method_5_code, 5, (some .int), 3, 3, 0, 4)
def k_114_0 : List Rw := [(.aload_n 3, 1, 3, 0, .null, .int, 0), (.iconst 0, 2, 0, 0, .int (0), .int, 0), (.aload_n 0, 3, 0, 0, .null, .int, 0), (.iload_n 1, 4, 1, 0, .null, .int, 0), (.iload_n 2, 5, 2, 0, .null, .int, 0), (.invokevirtual 22, 8, 224, 3, .ref 7, .int, 223), (.i2l, 9, 0, 0, .null, .int, 0), (.lastore, 10, 0, 0, .null, .int, 0), (.goto 11, 13, 21, 0, .null, .int, 0)]
def k_114_15 : List Rw := [(.iconst 1, 16, 0, 0, .int (1), .int, 0), (.ireturn, 17, 0, 0, .null, .int, 0)]
def k_114_19 : List Rw := [(.iconst 2, 20, 0, 0, .int (2), .int, 0), (.ireturn, 21, 0, 0, .null, .int, 0)]
def k_114_21 : List Rw := [(.iconst 0, 22, 0, 0, .int (0), .int, 0), (.ireturn, 23, 0, 0, .null, .int, 0)]
def bl_114 : List (Nat × List Rw × Nat) := [(0, k_114_0, 99999), (15, k_114_15, 99999), (19, k_114_19, 99999), (21, k_114_21, 99999)]
set_option maxRecDepth 1000000 in
theorem ok_114 : bl_114.all (fun b => rowsB e_114 b.1 b.2.1 b.2.2) = true := by decide +kernel
-- FishGraderModel.score (II)I
abbrev e_115 : MIt := (⟨"FishGraderModel", "score", "(II)I"⟩, prog_11_method_56_code, 3, (some .int), 2, 0, 8, 2)
def k_115_0 : List Rw := [(.aload_n 0, 1, 0, 0, .null, .int, 0), (.aload_n 0, 2, 0, 0, .null, .int, 0), (.iload_n 1, 3, 1, 0, .null, .int, 0), (.invokevirtual 285, 6, 218, 2, .ref 8, .int, 217), (.ifCond .eq 15, 9, 21, 0, .null, .int, 0), (.aload_n 0, 10, 0, 0, .null, .int, 0), (.iload_n 2, 11, 2, 0, .null, .int, 0), (.invokevirtual 282, 14, 154, 2, .ref 8, .int, 153), (.ifCond .eq 7, 17, 21, 0, .null, .int, 0), (.iconst 1, 18, 0, 0, .int (1), .int, 0), (.goto 4, 21, 22, 0, .null, .int, 0)]
def k_115_21 : List Rw := [(.iconst 0, 22, 0, 0, .int (0), .int, 0)]
def k_115_22 : List Rw := [(.invokevirtual 288, 25, 138, 2, .ref 8, .int, 137), (.ifCond .eq 20, 28, 45, 0, .null, .int, 0), (.aload_n 0, 29, 0, 0, .null, .int, 0), (.getfield 30, 32, 8, 15, .null, (.array .int), 21), (.sipush 368, 35, 0, 0, .int (368), .int, 0), (.iconst 4, 36, 0, 0, .int (4), .int, 0), (.iload_n 1, 37, 1, 0, .null, .int, 0), (.imul, 38, 0, 0, .null, .int, 0), (.iadd, 39, 0, 0, .null, .int, 0), (.iload_n 2, 40, 2, 0, .null, .int, 0), (.iadd, 41, 0, 0, .null, .int, 0), (.iaload, 42, 0, 0, .null, .int, 0), (.goto 4, 45, 46, 0, .null, .int, 0)]
def k_115_45 : List Rw := [(.iconst 0, 46, 0, 0, .int (0), .int, 0)]
def k_115_46 : List Rw := [(.ireturn, 47, 0, 0, .null, .int, 0)]
def bl_115 : List (Nat × List Rw × Nat) := [(0, k_115_0, 99999), (21, k_115_21, 22), (22, k_115_22, 99999), (45, k_115_45, 46), (46, k_115_46, 99999)]
set_option maxRecDepth 1000000 in
theorem ok_115 : bl_115.all (fun b => rowsB e_115 b.1 b.2.1 b.2.2) = true := by decide +kernel
-- FishGraderLaw.weight (LFishGrader;I[J)I
abbrev e_116 : MIt := (⟨"FishGraderLaw", "weight", "(LFishGrader;I[J)I"⟩, method_4_code, 4, (some .int), 3, 3, 0, 3)
def k_116_0 : List Rw := [(.aload_n 2, 1, 2, 0, .null, .int, 0), (.iconst 0, 2, 0, 0, .int (0), .int, 0), (.aload_n 0, 3, 0, 0, .null, .int, 0), (.iload_n 1, 4, 1, 0, .null, .int, 0), (.invokevirtual 17, 7, 225, 2, .ref 7, .int, 224), (.i2l, 8, 0, 0, .null, .int, 0), (.lastore, 9, 0, 0, .null, .int, 0), (.goto 9, 12, 18, 0, .null, .int, 0)]
def k_116_13 : List Rw := [(.iconst 1, 14, 0, 0, .int (1), .int, 0), (.ireturn, 15, 0, 0, .null, .int, 0)]
def k_116_16 : List Rw := [(.iconst 2, 17, 0, 0, .int (2), .int, 0), (.ireturn, 18, 0, 0, .null, .int, 0)]
def k_116_18 : List Rw := [(.iconst 0, 19, 0, 0, .int (0), .int, 0), (.ireturn, 20, 0, 0, .null, .int, 0)]
def bl_116 : List (Nat × List Rw × Nat) := [(0, k_116_0, 99999), (13, k_116_13, 99999), (16, k_116_16, 99999), (18, k_116_18, 99999)]
set_option maxRecDepth 1000000 in
theorem ok_116 : bl_116.all (fun b => rowsB e_116 b.1 b.2.1 b.2.2) = true := by decide +kernel
-- FishGraderModel.weight (I)I
abbrev e_117 : MIt := (⟨"FishGraderModel", "weight", "(I)I"⟩, prog_11_method_55_code, 2, (some .int), 3, 0, 8, 1)
def k_117_0 : List Rw := [(.aload_n 0, 1, 0, 0, .null, .int, 0), (.iload_n 1, 2, 1, 0, .null, .int, 0), (.sipush 208, 5, 0, 0, .int (208), .int, 0), (.invokevirtual 292, 8, 222, 3, .ref 8, .int, 221), (.ireturn, 9, 0, 0, .null, .int, 0)]
def bl_117 : List (Nat × List Rw × Nat) := [(0, k_117_0, 99999)]
set_option maxRecDepth 1000000 in
theorem ok_117 : bl_117.all (fun b => rowsB e_117 b.1 b.2.1 b.2.2) = true := by decide +kernel
