-- ===== the program =====
abbrev Bk : Type := Nat × List Rw × Nat
def blF (bl : List Bk) (pc : Nat) : List Rw × Nat := match bl.find? (fun b => Nat.beq b.1 pc) with
  | some b => b.2
  | none => ([], 99999)
def arrZ : FieldType → Bool
  | .int => true
  | .byte => true
  | .long => true
  | .object c => decide (c = "FishGrader$State")
  | _ => false
def annZ (r : Rw) : Bool := (match r.2.2.2.2.1 with
  | .ref i => decide (i < nS)
  | _ => true) && (match r.1 with
  | .putfield _ => decide (r.2.2.1 < 1000)
  | .new _ => decide (r.2.2.1 < 1000)
  | .newarray _ => arrZ r.2.2.2.2.2.1
  | .anewarray _ => arrZ r.2.2.2.2.2.1
  | _ => true)
theorem arrZ_ok {t : FieldType} (h : arrZ t = true) : arrT t := by
  cases t <;> first | exact Or.inl rfl | exact Or.inr (Or.inl rfl) | exact Or.inr (Or.inr (Or.inl rfl)) | exact Or.inr (Or.inr (Or.inr (congrArg FieldType.object (of_decide_eq_true h)))) | cases h
theorem annZ_ok {r : Rw} (h : annZ r = true) : annV r := by
  obtain ⟨h1, h2⟩ := Bool.and_eq_true_iff.mp h
  refine ⟨?_, ?_, ?_, ?_, ?_⟩
  · intro i e; rw [e] at h1; exact of_decide_eq_true h1
  all_goals intro q e; rw [e] at h2
  · exact of_decide_eq_true h2
  · exact of_decide_eq_true h2
  · exact arrZ_ok h2
  · exact arrZ_ok h2
def blC (y : Nat) (bl : List Bk) : Bool := bl.all (fun b => rowsC y b.1 b.2.1 && b.2.1.all annZ && !(Nat.beq b.1 99999))
def OKx (y : Nat) (x : MIt × List Bk) : Prop := MI[y]? = some x.1 ∧ x.2.all (fun b => rowsB x.1 b.1 b.2.1 b.2.2) = true ∧ blC y x.2 = true
set_option maxRecDepth 1000000 in
theorem ok_0 : bl_0.all (fun b => rowsB e_0 b.1 b.2.1 b.2.2) = true := by
  refine List.all_eq_true.mpr ?_
  unfold bl_0
  simp only [List.forall_mem_cons]
  exact ⟨okb_0_0, okb_0_23, okb_0_312, okb_0_385, okb_0_421, okb_0_438, okb_0_441, okb_0_454, okb_0_467, okb_0_480, okb_0_493, okb_0_506, okb_0_542, okb_0_559, okb_0_562, okb_0_610, okb_0_627, okb_0_630, okb_0_666, okb_0_683, okb_0_686, okb_0_722, okb_0_739, okb_0_742, okb_0_778, okb_0_795, okb_0_798, okb_0_834, okb_0_851, okb_0_854, okb_0_902, okb_0_919, okb_0_922, okb_0_970, okb_0_987, okb_0_990, okb_0_1003, okb_0_1039, okb_0_1056, okb_0_1059, okb_0_1095, okb_0_1112, okb_0_1115, okb_0_1151, okb_0_1168, okb_0_1171, okb_0_1207, okb_0_1224, okb_0_1227, okb_0_1263, okb_0_1280, okb_0_1283, okb_0_1319, okb_0_1336, okb_0_1339, okb_0_1375, okb_0_1392, okb_0_1395, okb_0_1408, okb_0_1421, okb_0_1434, okb_0_1470, okb_0_1487, okb_0_1490, okb_0_1503, okb_0_1516, okb_0_1552, okb_0_1569, okb_0_1570, okb_0_1576, okb_0_1579, okb_0_1603, okb_0_1620, okb_0_1623, okb_0_1636, okb_0_1672, okb_0_1689, okb_0_1692, okb_0_1728, okb_0_1745, okb_0_1748, okb_0_1784, okb_0_1801, okb_0_1804, okb_0_1840, okb_0_1857, okb_0_1860, okb_0_1896, okb_0_1913, okb_0_1916, okb_0_1952, okb_0_1969, okb_0_1972, okb_0_1992, okb_0_1993, okb_0_2019, okb_0_2020, okb_0_2036, okb_0_2053, okb_0_2056, okb_0_2092, okb_0_2109, okb_0_2112, okb_0_2148, okb_0_2165, okb_0_2168, okb_0_2216, okb_0_2233, okb_0_2236, okb_0_2272, okb_0_2289, okb_0_2292, okb_0_2328, okb_0_2345, okb_0_2348, okb_0_2396, okb_0_2413, okb_0_2416, okb_0_2452, okb_0_2469, okb_0_2472, okb_0_2520, okb_0_2537, okb_0_2540, okb_0_2600, okb_0_2617, okb_0_2620, okb_0_2644, okb_0_2661, okb_0_2664, okb_0_2700, okb_0_2717, okb_0_2720, okb_0_2768, okb_0_2785, okb_0_2788, okb_0_2836, okb_0_2853, okb_0_2856, okb_0_2928, okb_0_2945, okb_0_2948, okb_0_2984, okb_0_3001, okb_0_3004, okb_0_3040, okb_0_3057, okb_0_3060, okb_0_3108, okb_0_3125, okb_0_3128, okb_0_3188, okb_0_3205, okb_0_3208, okb_0_3232, okb_0_3249, okb_0_3252, okb_0_3265, okb_0_3289, okb_0_3306, okb_0_3309, okb_0_3333, okb_0_3350, okb_0_3353, okb_0_3389, okb_0_3406, okb_0_3409, okb_0_3433, okb_0_3450, okb_0_3453, okb_0_3489, okb_0_3506, okb_0_3509, okb_0_3515, fun _ h => nomatch h⟩
set_option maxRecDepth 1000000 in
theorem lf_0 : OKx 0 (e_0, bl_0) := ⟨rfl, ok_0, by decide +kernel⟩
set_option maxRecDepth 1000000 in
theorem lf_1 : OKx 1 (e_1, bl_1) := ⟨rfl, ok_1, by decide +kernel⟩
set_option maxRecDepth 1000000 in
theorem lf_2 : OKx 2 (e_2, bl_2) := ⟨rfl, ok_2, by decide +kernel⟩
set_option maxRecDepth 1000000 in
theorem lf_3 : OKx 3 (e_3, bl_3) := ⟨rfl, ok_3, by decide +kernel⟩
set_option maxRecDepth 1000000 in
theorem lf_4 : OKx 4 (e_4, bl_4) := ⟨rfl, ok_4, by decide +kernel⟩
set_option maxRecDepth 1000000 in
theorem lf_5 : OKx 5 (e_5, bl_5) := ⟨rfl, ok_5, by decide +kernel⟩
set_option maxRecDepth 1000000 in
theorem lf_6 : OKx 6 (e_6, bl_6) := ⟨rfl, ok_6, by decide +kernel⟩
set_option maxRecDepth 1000000 in
theorem lf_7 : OKx 7 (e_7, bl_7) := ⟨rfl, ok_7, by decide +kernel⟩
set_option maxRecDepth 1000000 in
theorem lf_8 : OKx 8 (e_8, bl_8) := ⟨rfl, ok_8, by decide +kernel⟩
set_option maxRecDepth 1000000 in
theorem lf_9 : OKx 9 (e_9, bl_9) := ⟨rfl, ok_9, by decide +kernel⟩
set_option maxRecDepth 1000000 in
theorem lf_10 : OKx 10 (e_10, bl_10) := ⟨rfl, ok_10, by decide +kernel⟩
set_option maxRecDepth 1000000 in
theorem lf_11 : OKx 11 (e_11, bl_11) := ⟨rfl, ok_11, by decide +kernel⟩
set_option maxRecDepth 1000000 in
theorem lf_12 : OKx 12 (e_12, bl_12) := ⟨rfl, ok_12, by decide +kernel⟩
set_option maxRecDepth 1000000 in
theorem lf_13 : OKx 13 (e_13, bl_13) := ⟨rfl, ok_13, by decide +kernel⟩
set_option maxRecDepth 1000000 in
theorem lf_14 : OKx 14 (e_14, bl_14) := ⟨rfl, ok_14, by decide +kernel⟩
set_option maxRecDepth 1000000 in
theorem lf_15 : OKx 15 (e_15, bl_15) := ⟨rfl, ok_15, by decide +kernel⟩
set_option maxRecDepth 1000000 in
theorem lf_16 : OKx 16 (e_16, bl_16) := ⟨rfl, ok_16, by decide +kernel⟩
set_option maxRecDepth 1000000 in
theorem lf_17 : OKx 17 (e_17, bl_17) := ⟨rfl, ok_17, by decide +kernel⟩
set_option maxRecDepth 1000000 in
theorem lf_18 : OKx 18 (e_18, bl_18) := ⟨rfl, ok_18, by decide +kernel⟩
set_option maxRecDepth 1000000 in
theorem lf_19 : OKx 19 (e_19, bl_19) := ⟨rfl, ok_19, by decide +kernel⟩
set_option maxRecDepth 1000000 in
theorem lf_20 : OKx 20 (e_20, bl_20) := ⟨rfl, ok_20, by decide +kernel⟩
set_option maxRecDepth 1000000 in
theorem lf_21 : OKx 21 (e_21, bl_21) := ⟨rfl, ok_21, by decide +kernel⟩
set_option maxRecDepth 1000000 in
theorem lf_22 : OKx 22 (e_22, bl_22) := ⟨rfl, ok_22, by decide +kernel⟩
set_option maxRecDepth 1000000 in
theorem lf_23 : OKx 23 (e_23, bl_23) := ⟨rfl, ok_23, by decide +kernel⟩
set_option maxRecDepth 1000000 in
theorem lf_24 : OKx 24 (e_24, bl_24) := ⟨rfl, ok_24, by decide +kernel⟩
set_option maxRecDepth 1000000 in
theorem lf_25 : OKx 25 (e_25, bl_25) := ⟨rfl, ok_25, by decide +kernel⟩
set_option maxRecDepth 1000000 in
theorem lf_26 : OKx 26 (e_26, bl_26) := ⟨rfl, ok_26, by decide +kernel⟩
set_option maxRecDepth 1000000 in
theorem lf_27 : OKx 27 (e_27, bl_27) := ⟨rfl, ok_27, by decide +kernel⟩
set_option maxRecDepth 1000000 in
theorem lf_28 : OKx 28 (e_28, bl_28) := ⟨rfl, ok_28, by decide +kernel⟩
set_option maxRecDepth 1000000 in
theorem lf_29 : OKx 29 (e_29, bl_29) := ⟨rfl, ok_29, by decide +kernel⟩
set_option maxRecDepth 1000000 in
theorem lf_30 : OKx 30 (e_30, bl_30) := ⟨rfl, ok_30, by decide +kernel⟩
set_option maxRecDepth 1000000 in
theorem lf_31 : OKx 31 (e_31, bl_31) := ⟨rfl, ok_31, by decide +kernel⟩
set_option maxRecDepth 1000000 in
theorem lf_32 : OKx 32 (e_32, bl_32) := ⟨rfl, ok_32, by decide +kernel⟩
set_option maxRecDepth 1000000 in
theorem lf_33 : OKx 33 (e_33, bl_33) := ⟨rfl, ok_33, by decide +kernel⟩
set_option maxRecDepth 1000000 in
theorem lf_34 : OKx 34 (e_34, bl_34) := ⟨rfl, ok_34, by decide +kernel⟩
set_option maxRecDepth 1000000 in
theorem lf_35 : OKx 35 (e_35, bl_35) := ⟨rfl, ok_35, by decide +kernel⟩
set_option maxRecDepth 1000000 in
theorem lf_36 : OKx 36 (e_36, bl_36) := ⟨rfl, ok_36, by decide +kernel⟩
set_option maxRecDepth 1000000 in
theorem lf_37 : OKx 37 (e_37, bl_37) := ⟨rfl, ok_37, by decide +kernel⟩
set_option maxRecDepth 1000000 in
theorem lf_38 : OKx 38 (e_38, bl_38) := ⟨rfl, ok_38, by decide +kernel⟩
set_option maxRecDepth 1000000 in
theorem lf_39 : OKx 39 (e_39, bl_39) := ⟨rfl, ok_39, by decide +kernel⟩
set_option maxRecDepth 1000000 in
theorem lf_40 : OKx 40 (e_40, bl_40) := ⟨rfl, ok_40, by decide +kernel⟩
set_option maxRecDepth 1000000 in
theorem lf_41 : OKx 41 (e_41, bl_41) := ⟨rfl, ok_41, by decide +kernel⟩
set_option maxRecDepth 1000000 in
theorem lf_42 : OKx 42 (e_42, bl_42) := ⟨rfl, ok_42, by decide +kernel⟩
set_option maxRecDepth 1000000 in
theorem lf_43 : OKx 43 (e_43, bl_43) := ⟨rfl, ok_43, by decide +kernel⟩
set_option maxRecDepth 1000000 in
theorem lf_44 : OKx 44 (e_44, bl_44) := ⟨rfl, ok_44, by decide +kernel⟩
set_option maxRecDepth 1000000 in
theorem lf_45 : OKx 45 (e_45, bl_45) := ⟨rfl, ok_45, by decide +kernel⟩
set_option maxRecDepth 1000000 in
theorem lf_46 : OKx 46 (e_46, bl_46) := ⟨rfl, ok_46, by decide +kernel⟩
set_option maxRecDepth 1000000 in
theorem lf_47 : OKx 47 (e_47, bl_47) := ⟨rfl, ok_47, by decide +kernel⟩
set_option maxRecDepth 1000000 in
theorem lf_48 : OKx 48 (e_48, bl_48) := ⟨rfl, ok_48, by decide +kernel⟩
set_option maxRecDepth 1000000 in
theorem lf_49 : OKx 49 (e_49, bl_49) := ⟨rfl, ok_49, by decide +kernel⟩
set_option maxRecDepth 1000000 in
theorem lf_50 : OKx 50 (e_50, bl_50) := ⟨rfl, ok_50, by decide +kernel⟩
set_option maxRecDepth 1000000 in
theorem lf_51 : OKx 51 (e_51, bl_51) := ⟨rfl, ok_51, by decide +kernel⟩
set_option maxRecDepth 1000000 in
theorem lf_52 : OKx 52 (e_52, bl_52) := ⟨rfl, ok_52, by decide +kernel⟩
set_option maxRecDepth 1000000 in
theorem lf_53 : OKx 53 (e_53, bl_53) := ⟨rfl, ok_53, by decide +kernel⟩
set_option maxRecDepth 1000000 in
theorem lf_54 : OKx 54 (e_54, bl_54) := ⟨rfl, ok_54, by decide +kernel⟩
set_option maxRecDepth 1000000 in
theorem lf_55 : OKx 55 (e_55, bl_55) := ⟨rfl, ok_55, by decide +kernel⟩
set_option maxRecDepth 1000000 in
theorem lf_56 : OKx 56 (e_56, bl_56) := ⟨rfl, ok_56, by decide +kernel⟩
set_option maxRecDepth 1000000 in
theorem lf_57 : OKx 57 (e_57, bl_57) := ⟨rfl, ok_57, by decide +kernel⟩
set_option maxRecDepth 1000000 in
theorem lf_58 : OKx 58 (e_58, bl_58) := ⟨rfl, ok_58, by decide +kernel⟩
set_option maxRecDepth 1000000 in
theorem lf_59 : OKx 59 (e_59, bl_59) := ⟨rfl, ok_59, by decide +kernel⟩
set_option maxRecDepth 1000000 in
theorem lf_60 : OKx 60 (e_60, bl_60) := ⟨rfl, ok_60, by decide +kernel⟩
set_option maxRecDepth 1000000 in
theorem lf_61 : OKx 61 (e_61, bl_61) := ⟨rfl, ok_61, by decide +kernel⟩
set_option maxRecDepth 1000000 in
theorem lf_62 : OKx 62 (e_62, bl_62) := ⟨rfl, ok_62, by decide +kernel⟩
set_option maxRecDepth 1000000 in
theorem lf_63 : OKx 63 (e_63, bl_63) := ⟨rfl, ok_63, by decide +kernel⟩
set_option maxRecDepth 1000000 in
theorem lf_64 : OKx 64 (e_64, bl_64) := ⟨rfl, ok_64, by decide +kernel⟩
set_option maxRecDepth 1000000 in
theorem lf_65 : OKx 65 (e_65, bl_65) := ⟨rfl, ok_65, by decide +kernel⟩
set_option maxRecDepth 1000000 in
theorem lf_66 : OKx 66 (e_66, bl_66) := ⟨rfl, ok_66, by decide +kernel⟩
set_option maxRecDepth 1000000 in
theorem lf_67 : OKx 67 (e_67, bl_67) := ⟨rfl, ok_67, by decide +kernel⟩
set_option maxRecDepth 1000000 in
theorem lf_68 : OKx 68 (e_68, bl_68) := ⟨rfl, ok_68, by decide +kernel⟩
set_option maxRecDepth 1000000 in
theorem lf_69 : OKx 69 (e_69, bl_69) := ⟨rfl, ok_69, by decide +kernel⟩
set_option maxRecDepth 1000000 in
theorem lf_70 : OKx 70 (e_70, bl_70) := ⟨rfl, ok_70, by decide +kernel⟩
set_option maxRecDepth 1000000 in
theorem lf_71 : OKx 71 (e_71, bl_71) := ⟨rfl, ok_71, by decide +kernel⟩
set_option maxRecDepth 1000000 in
theorem lf_72 : OKx 72 (e_72, bl_72) := ⟨rfl, ok_72, by decide +kernel⟩
set_option maxRecDepth 1000000 in
theorem lf_73 : OKx 73 (e_73, bl_73) := ⟨rfl, ok_73, by decide +kernel⟩
set_option maxRecDepth 1000000 in
theorem lf_74 : OKx 74 (e_74, bl_74) := ⟨rfl, ok_74, by decide +kernel⟩
set_option maxRecDepth 1000000 in
theorem lf_75 : OKx 75 (e_75, bl_75) := ⟨rfl, ok_75, by decide +kernel⟩
set_option maxRecDepth 1000000 in
theorem lf_76 : OKx 76 (e_76, bl_76) := ⟨rfl, ok_76, by decide +kernel⟩
set_option maxRecDepth 1000000 in
theorem lf_77 : OKx 77 (e_77, bl_77) := ⟨rfl, ok_77, by decide +kernel⟩
set_option maxRecDepth 1000000 in
theorem lf_78 : OKx 78 (e_78, bl_78) := ⟨rfl, ok_78, by decide +kernel⟩
set_option maxRecDepth 1000000 in
theorem lf_79 : OKx 79 (e_79, bl_79) := ⟨rfl, ok_79, by decide +kernel⟩
set_option maxRecDepth 1000000 in
theorem lf_80 : OKx 80 (e_80, bl_80) := ⟨rfl, ok_80, by decide +kernel⟩
set_option maxRecDepth 1000000 in
theorem lf_81 : OKx 81 (e_81, bl_81) := ⟨rfl, ok_81, by decide +kernel⟩
set_option maxRecDepth 1000000 in
theorem lf_82 : OKx 82 (e_82, bl_82) := ⟨rfl, ok_82, by decide +kernel⟩
set_option maxRecDepth 1000000 in
theorem lf_83 : OKx 83 (e_83, bl_83) := ⟨rfl, ok_83, by decide +kernel⟩
set_option maxRecDepth 1000000 in
theorem lf_84 : OKx 84 (e_84, bl_84) := ⟨rfl, ok_84, by decide +kernel⟩
set_option maxRecDepth 1000000 in
theorem lf_85 : OKx 85 (e_85, bl_85) := ⟨rfl, ok_85, by decide +kernel⟩
set_option maxRecDepth 1000000 in
theorem lf_86 : OKx 86 (e_86, bl_86) := ⟨rfl, ok_86, by decide +kernel⟩
set_option maxRecDepth 1000000 in
theorem lf_87 : OKx 87 (e_87, bl_87) := ⟨rfl, ok_87, by decide +kernel⟩
set_option maxRecDepth 1000000 in
theorem lf_88 : OKx 88 (e_88, bl_88) := ⟨rfl, ok_88, by decide +kernel⟩
set_option maxRecDepth 1000000 in
theorem lf_89 : OKx 89 (e_89, bl_89) := ⟨rfl, ok_89, by decide +kernel⟩
set_option maxRecDepth 1000000 in
theorem lf_90 : OKx 90 (e_90, bl_90) := ⟨rfl, ok_90, by decide +kernel⟩
set_option maxRecDepth 1000000 in
theorem lf_91 : OKx 91 (e_91, bl_91) := ⟨rfl, ok_91, by decide +kernel⟩
set_option maxRecDepth 1000000 in
theorem lf_92 : OKx 92 (e_92, bl_92) := ⟨rfl, ok_92, by decide +kernel⟩
set_option maxRecDepth 1000000 in
theorem lf_93 : OKx 93 (e_93, bl_93) := ⟨rfl, ok_93, by decide +kernel⟩
set_option maxRecDepth 1000000 in
theorem lf_94 : OKx 94 (e_94, bl_94) := ⟨rfl, ok_94, by decide +kernel⟩
set_option maxRecDepth 1000000 in
theorem lf_95 : OKx 95 (e_95, bl_95) := ⟨rfl, ok_95, by decide +kernel⟩
set_option maxRecDepth 1000000 in
theorem lf_96 : OKx 96 (e_96, bl_96) := ⟨rfl, ok_96, by decide +kernel⟩
set_option maxRecDepth 1000000 in
theorem lf_97 : OKx 97 (e_97, bl_97) := ⟨rfl, ok_97, by decide +kernel⟩
set_option maxRecDepth 1000000 in
theorem lf_98 : OKx 98 (e_98, bl_98) := ⟨rfl, ok_98, by decide +kernel⟩
set_option maxRecDepth 1000000 in
theorem lf_99 : OKx 99 (e_99, bl_99) := ⟨rfl, ok_99, by decide +kernel⟩
set_option maxRecDepth 1000000 in
theorem lf_100 : OKx 100 (e_100, bl_100) := ⟨rfl, ok_100, by decide +kernel⟩
set_option maxRecDepth 1000000 in
theorem lf_101 : OKx 101 (e_101, bl_101) := ⟨rfl, ok_101, by decide +kernel⟩
set_option maxRecDepth 1000000 in
theorem lf_102 : OKx 102 (e_102, bl_102) := ⟨rfl, ok_102, by decide +kernel⟩
set_option maxRecDepth 1000000 in
theorem lf_103 : OKx 103 (e_103, bl_103) := ⟨rfl, ok_103, by decide +kernel⟩
set_option maxRecDepth 1000000 in
theorem lf_104 : OKx 104 (e_104, bl_104) := ⟨rfl, ok_104, by decide +kernel⟩
set_option maxRecDepth 1000000 in
theorem lf_105 : OKx 105 (e_105, bl_105) := ⟨rfl, ok_105, by decide +kernel⟩
set_option maxRecDepth 1000000 in
theorem lf_106 : OKx 106 (e_106, bl_106) := ⟨rfl, ok_106, by decide +kernel⟩
set_option maxRecDepth 1000000 in
theorem lf_107 : OKx 107 (e_107, bl_107) := ⟨rfl, ok_107, by decide +kernel⟩
set_option maxRecDepth 1000000 in
theorem lf_108 : OKx 108 (e_108, bl_108) := ⟨rfl, ok_108, by decide +kernel⟩
set_option maxRecDepth 1000000 in
theorem lf_109 : OKx 109 (e_109, bl_109) := ⟨rfl, ok_109, by decide +kernel⟩
set_option maxRecDepth 1000000 in
theorem lf_110 : OKx 110 (e_110, bl_110) := ⟨rfl, ok_110, by decide +kernel⟩
set_option maxRecDepth 1000000 in
theorem lf_111 : OKx 111 (e_111, bl_111) := ⟨rfl, ok_111, by decide +kernel⟩
set_option maxRecDepth 1000000 in
theorem lf_112 : OKx 112 (e_112, bl_112) := ⟨rfl, ok_112, by decide +kernel⟩
set_option maxRecDepth 1000000 in
theorem lf_113 : OKx 113 (e_113, bl_113) := ⟨rfl, ok_113, by decide +kernel⟩
set_option maxRecDepth 1000000 in
theorem lf_114 : OKx 114 (e_114, bl_114) := ⟨rfl, ok_114, by decide +kernel⟩
set_option maxRecDepth 1000000 in
theorem lf_115 : OKx 115 (e_115, bl_115) := ⟨rfl, ok_115, by decide +kernel⟩
set_option maxRecDepth 1000000 in
theorem lf_116 : OKx 116 (e_116, bl_116) := ⟨rfl, ok_116, by decide +kernel⟩
set_option maxRecDepth 1000000 in
theorem lf_117 : OKx 117 (e_117, bl_117) := ⟨rfl, ok_117, by decide +kernel⟩
set_option maxRecDepth 1000000 in
theorem lf_118 : OKx 118 (e_118, bl_118) := ⟨rfl, ok_118, by decide +kernel⟩
set_option maxRecDepth 1000000 in
theorem lf_119 : OKx 119 (e_119, bl_119) := ⟨rfl, ok_119, by decide +kernel⟩
set_option maxRecDepth 1000000 in
theorem lf_120 : OKx 120 (e_120, bl_120) := ⟨rfl, ok_120, by decide +kernel⟩
set_option maxRecDepth 1000000 in
theorem lf_121 : OKx 121 (e_121, bl_121) := ⟨rfl, ok_121, by decide +kernel⟩
set_option maxRecDepth 1000000 in
theorem lf_122 : OKx 122 (e_122, bl_122) := ⟨rfl, ok_122, by decide +kernel⟩
set_option maxRecDepth 1000000 in
theorem lf_123 : OKx 123 (e_123, bl_123) := ⟨rfl, ok_123, by decide +kernel⟩
set_option maxRecDepth 1000000 in
theorem lf_124 : OKx 124 (e_124, bl_124) := ⟨rfl, ok_124, by decide +kernel⟩
set_option maxRecDepth 1000000 in
theorem lf_125 : OKx 125 (e_125, bl_125) := ⟨rfl, ok_125, by decide +kernel⟩
set_option maxRecDepth 1000000 in
theorem lf_126 : OKx 126 (e_126, bl_126) := ⟨rfl, ok_126, by decide +kernel⟩
set_option maxRecDepth 1000000 in
theorem lf_127 : OKx 127 (e_127, bl_127) := ⟨rfl, ok_127, by decide +kernel⟩
set_option maxRecDepth 1000000 in
theorem lf_128 : OKx 128 (e_128, bl_128) := ⟨rfl, ok_128, by decide +kernel⟩
set_option maxRecDepth 1000000 in
theorem lf_129 : OKx 129 (e_129, bl_129) := ⟨rfl, ok_129, by decide +kernel⟩
set_option maxRecDepth 1000000 in
theorem lf_130 : OKx 130 (e_130, bl_130) := ⟨rfl, ok_130, by decide +kernel⟩
set_option maxRecDepth 1000000 in
theorem lf_131 : OKx 131 (e_131, bl_131) := ⟨rfl, ok_131, by decide +kernel⟩
set_option maxRecDepth 1000000 in
theorem lf_132 : OKx 132 (e_132, bl_132) := ⟨rfl, ok_132, by decide +kernel⟩
set_option maxRecDepth 1000000 in
theorem lf_133 : OKx 133 (e_133, bl_133) := ⟨rfl, ok_133, by decide +kernel⟩
set_option maxRecDepth 1000000 in
theorem lf_134 : OKx 134 (e_134, bl_134) := ⟨rfl, ok_134, by decide +kernel⟩
set_option maxRecDepth 1000000 in
theorem lf_135 : OKx 135 (e_135, bl_135) := ⟨rfl, ok_135, by decide +kernel⟩
set_option maxRecDepth 1000000 in
theorem lf_136 : OKx 136 (e_136, bl_136) := ⟨rfl, ok_136, by decide +kernel⟩
set_option maxRecDepth 1000000 in
theorem lf_137 : OKx 137 (e_137, bl_137) := ⟨rfl, ok_137, by decide +kernel⟩
set_option maxRecDepth 1000000 in
theorem lf_138 : OKx 138 (e_138, bl_138) := ⟨rfl, ok_138, by decide +kernel⟩
set_option maxRecDepth 1000000 in
theorem lf_139 : OKx 139 (e_139, bl_139) := ⟨rfl, ok_139, by decide +kernel⟩
set_option maxRecDepth 1000000 in
theorem lf_140 : OKx 140 (e_140, bl_140) := ⟨rfl, ok_140, by decide +kernel⟩
set_option maxRecDepth 1000000 in
theorem lf_141 : OKx 141 (e_141, bl_141) := ⟨rfl, ok_141, by decide +kernel⟩
set_option maxRecDepth 1000000 in
theorem lf_142 : OKx 142 (e_142, bl_142) := ⟨rfl, ok_142, by decide +kernel⟩
set_option maxRecDepth 1000000 in
theorem lf_143 : OKx 143 (e_143, bl_143) := ⟨rfl, ok_143, by decide +kernel⟩
set_option maxRecDepth 1000000 in
theorem lf_144 : OKx 144 (e_144, bl_144) := ⟨rfl, ok_144, by decide +kernel⟩
set_option maxRecDepth 1000000 in
theorem lf_145 : OKx 145 (e_145, bl_145) := ⟨rfl, ok_145, by decide +kernel⟩
set_option maxRecDepth 1000000 in
theorem lf_146 : OKx 146 (e_146, bl_146) := ⟨rfl, ok_146, by decide +kernel⟩
set_option maxRecDepth 1000000 in
theorem lf_147 : OKx 147 (e_147, bl_147) := ⟨rfl, ok_147, by decide +kernel⟩
set_option maxRecDepth 1000000 in
theorem lf_148 : OKx 148 (e_148, bl_148) := ⟨rfl, ok_148, by decide +kernel⟩
set_option maxRecDepth 1000000 in
theorem lf_149 : OKx 149 (e_149, bl_149) := ⟨rfl, ok_149, by decide +kernel⟩
set_option maxRecDepth 1000000 in
theorem lf_150 : OKx 150 (e_150, bl_150) := ⟨rfl, ok_150, by decide +kernel⟩
set_option maxRecDepth 1000000 in
theorem lf_151 : OKx 151 (e_151, bl_151) := ⟨rfl, ok_151, by decide +kernel⟩
set_option maxRecDepth 1000000 in
theorem lf_152 : OKx 152 (e_152, bl_152) := ⟨rfl, ok_152, by decide +kernel⟩
set_option maxRecDepth 1000000 in
theorem lf_153 : OKx 153 (e_153, bl_153) := ⟨rfl, ok_153, by decide +kernel⟩
set_option maxRecDepth 1000000 in
theorem lf_154 : OKx 154 (e_154, bl_154) := ⟨rfl, ok_154, by decide +kernel⟩
set_option maxRecDepth 1000000 in
theorem lf_155 : OKx 155 (e_155, bl_155) := ⟨rfl, ok_155, by decide +kernel⟩
set_option maxRecDepth 1000000 in
theorem lf_156 : OKx 156 (e_156, bl_156) := ⟨rfl, ok_156, by decide +kernel⟩
set_option maxRecDepth 1000000 in
theorem lf_157 : OKx 157 (e_157, bl_157) := ⟨rfl, ok_157, by decide +kernel⟩
set_option maxRecDepth 1000000 in
theorem lf_158 : OKx 158 (e_158, bl_158) := ⟨rfl, ok_158, by decide +kernel⟩
set_option maxRecDepth 1000000 in
theorem lf_159 : OKx 159 (e_159, bl_159) := ⟨rfl, ok_159, by decide +kernel⟩
set_option maxRecDepth 1000000 in
theorem lf_160 : OKx 160 (e_160, bl_160) := ⟨rfl, ok_160, by decide +kernel⟩
set_option maxRecDepth 1000000 in
theorem lf_161 : OKx 161 (e_161, bl_161) := ⟨rfl, ok_161, by decide +kernel⟩
set_option maxRecDepth 1000000 in
theorem lf_162 : OKx 162 (e_162, bl_162) := ⟨rfl, ok_162, by decide +kernel⟩
set_option maxRecDepth 1000000 in
theorem lf_163 : OKx 163 (e_163, bl_163) := ⟨rfl, ok_163, by decide +kernel⟩
set_option maxRecDepth 1000000 in
theorem lf_164 : OKx 164 (e_164, bl_164) := ⟨rfl, ok_164, by decide +kernel⟩
set_option maxRecDepth 1000000 in
theorem lf_165 : OKx 165 (e_165, bl_165) := ⟨rfl, ok_165, by decide +kernel⟩
set_option maxRecDepth 1000000 in
theorem lf_166 : OKx 166 (e_166, bl_166) := ⟨rfl, ok_166, by decide +kernel⟩
set_option maxRecDepth 1000000 in
theorem lf_167 : OKx 167 (e_167, bl_167) := ⟨rfl, ok_167, by decide +kernel⟩
set_option maxRecDepth 1000000 in
theorem lf_168 : OKx 168 (e_168, bl_168) := ⟨rfl, ok_168, by decide +kernel⟩
set_option maxRecDepth 1000000 in
theorem lf_169 : OKx 169 (e_169, bl_169) := ⟨rfl, ok_169, by decide +kernel⟩
set_option maxRecDepth 1000000 in
theorem lf_170 : OKx 170 (e_170, bl_170) := ⟨rfl, ok_170, by decide +kernel⟩
set_option maxRecDepth 1000000 in
theorem lf_171 : OKx 171 (e_171, bl_171) := ⟨rfl, ok_171, by decide +kernel⟩
set_option maxRecDepth 1000000 in
theorem lf_172 : OKx 172 (e_172, bl_172) := ⟨rfl, ok_172, by decide +kernel⟩
set_option maxRecDepth 1000000 in
theorem lf_173 : OKx 173 (e_173, bl_173) := ⟨rfl, ok_173, by decide +kernel⟩
set_option maxRecDepth 1000000 in
theorem lf_174 : OKx 174 (e_174, bl_174) := ⟨rfl, ok_174, by decide +kernel⟩
set_option maxRecDepth 1000000 in
theorem lf_175 : OKx 175 (e_175, bl_175) := ⟨rfl, ok_175, by decide +kernel⟩
set_option maxRecDepth 1000000 in
theorem lf_176 : OKx 176 (e_176, bl_176) := ⟨rfl, ok_176, by decide +kernel⟩
set_option maxRecDepth 1000000 in
theorem lf_177 : OKx 177 (e_177, bl_177) := ⟨rfl, ok_177, by decide +kernel⟩
set_option maxRecDepth 1000000 in
theorem lf_178 : OKx 178 (e_178, bl_178) := ⟨rfl, ok_178, by decide +kernel⟩
set_option maxRecDepth 1000000 in
theorem lf_179 : OKx 179 (e_179, bl_179) := ⟨rfl, ok_179, by decide +kernel⟩
set_option maxRecDepth 1000000 in
theorem lf_180 : OKx 180 (e_180, bl_180) := ⟨rfl, ok_180, by decide +kernel⟩
set_option maxRecDepth 1000000 in
theorem lf_181 : OKx 181 (e_181, bl_181) := ⟨rfl, ok_181, by decide +kernel⟩
set_option maxRecDepth 1000000 in
theorem lf_182 : OKx 182 (e_182, bl_182) := ⟨rfl, ok_182, by decide +kernel⟩
set_option maxRecDepth 1000000 in
theorem lf_183 : OKx 183 (e_183, bl_183) := ⟨rfl, ok_183, by decide +kernel⟩
set_option maxRecDepth 1000000 in
theorem lf_184 : OKx 184 (e_184, bl_184) := ⟨rfl, ok_184, by decide +kernel⟩
set_option maxRecDepth 1000000 in
theorem lf_185 : OKx 185 (e_185, bl_185) := ⟨rfl, ok_185, by decide +kernel⟩
set_option maxRecDepth 1000000 in
theorem lf_186 : OKx 186 (e_186, bl_186) := ⟨rfl, ok_186, by decide +kernel⟩
set_option maxRecDepth 1000000 in
theorem lf_187 : OKx 187 (e_187, bl_187) := ⟨rfl, ok_187, by decide +kernel⟩
set_option maxRecDepth 1000000 in
theorem lf_188 : OKx 188 (e_188, bl_188) := ⟨rfl, ok_188, by decide +kernel⟩
set_option maxRecDepth 1000000 in
theorem lf_189 : OKx 189 (e_189, bl_189) := ⟨rfl, ok_189, by decide +kernel⟩
set_option maxRecDepth 1000000 in
theorem lf_190 : OKx 190 (e_190, bl_190) := ⟨rfl, ok_190, by decide +kernel⟩
set_option maxRecDepth 1000000 in
theorem lf_191 : OKx 191 (e_191, bl_191) := ⟨rfl, ok_191, by decide +kernel⟩
set_option maxRecDepth 1000000 in
theorem lf_192 : OKx 192 (e_192, bl_192) := ⟨rfl, ok_192, by decide +kernel⟩
set_option maxRecDepth 1000000 in
theorem lf_193 : OKx 193 (e_193, bl_193) := ⟨rfl, ok_193, by decide +kernel⟩
set_option maxRecDepth 1000000 in
theorem lf_194 : OKx 194 (e_194, bl_194) := ⟨rfl, ok_194, by decide +kernel⟩
set_option maxRecDepth 1000000 in
theorem lf_195 : OKx 195 (e_195, bl_195) := ⟨rfl, ok_195, by decide +kernel⟩
set_option maxRecDepth 1000000 in
theorem lf_196 : OKx 196 (e_196, bl_196) := ⟨rfl, ok_196, by decide +kernel⟩
set_option maxRecDepth 1000000 in
theorem lf_197 : OKx 197 (e_197, bl_197) := ⟨rfl, ok_197, by decide +kernel⟩
set_option maxRecDepth 1000000 in
theorem lf_198 : OKx 198 (e_198, bl_198) := ⟨rfl, ok_198, by decide +kernel⟩
set_option maxRecDepth 1000000 in
theorem lf_199 : OKx 199 (e_199, bl_199) := ⟨rfl, ok_199, by decide +kernel⟩
set_option maxRecDepth 1000000 in
theorem lf_200 : OKx 200 (e_200, bl_200) := ⟨rfl, ok_200, by decide +kernel⟩
set_option maxRecDepth 1000000 in
theorem lf_201 : OKx 201 (e_201, bl_201) := ⟨rfl, ok_201, by decide +kernel⟩
set_option maxRecDepth 1000000 in
theorem lf_202 : OKx 202 (e_202, bl_202) := ⟨rfl, ok_202, by decide +kernel⟩
set_option maxRecDepth 1000000 in
theorem lf_203 : OKx 203 (e_203, bl_203) := ⟨rfl, ok_203, by decide +kernel⟩
set_option maxRecDepth 1000000 in
theorem lf_204 : OKx 204 (e_204, bl_204) := ⟨rfl, ok_204, by decide +kernel⟩
set_option maxRecDepth 1000000 in
theorem lf_205 : OKx 205 (e_205, bl_205) := ⟨rfl, ok_205, by decide +kernel⟩
set_option maxRecDepth 1000000 in
theorem lf_206 : OKx 206 (e_206, bl_206) := ⟨rfl, ok_206, by decide +kernel⟩
set_option maxRecDepth 1000000 in
theorem lf_207 : OKx 207 (e_207, bl_207) := ⟨rfl, ok_207, by decide +kernel⟩
set_option maxRecDepth 1000000 in
theorem lf_208 : OKx 208 (e_208, bl_208) := ⟨rfl, ok_208, by decide +kernel⟩
set_option maxRecDepth 1000000 in
theorem lf_209 : OKx 209 (e_209, bl_209) := ⟨rfl, ok_209, by decide +kernel⟩
set_option maxRecDepth 1000000 in
theorem lf_210 : OKx 210 (e_210, bl_210) := ⟨rfl, ok_210, by decide +kernel⟩
set_option maxRecDepth 1000000 in
theorem lf_211 : OKx 211 (e_211, bl_211) := ⟨rfl, ok_211, by decide +kernel⟩
set_option maxRecDepth 1000000 in
theorem lf_212 : OKx 212 (e_212, bl_212) := ⟨rfl, ok_212, by decide +kernel⟩
set_option maxRecDepth 1000000 in
theorem lf_213 : OKx 213 (e_213, bl_213) := ⟨rfl, ok_213, by decide +kernel⟩
set_option maxRecDepth 1000000 in
theorem lf_214 : OKx 214 (e_214, bl_214) := ⟨rfl, ok_214, by decide +kernel⟩
set_option maxRecDepth 1000000 in
theorem lf_215 : OKx 215 (e_215, bl_215) := ⟨rfl, ok_215, by decide +kernel⟩
set_option maxRecDepth 1000000 in
theorem lf_216 : OKx 216 (e_216, bl_216) := ⟨rfl, ok_216, by decide +kernel⟩
set_option maxRecDepth 1000000 in
theorem lf_217 : OKx 217 (e_217, bl_217) := ⟨rfl, ok_217, by decide +kernel⟩
set_option maxRecDepth 1000000 in
theorem lf_218 : OKx 218 (e_218, bl_218) := ⟨rfl, ok_218, by decide +kernel⟩
set_option maxRecDepth 1000000 in
theorem lf_219 : OKx 219 (e_219, bl_219) := ⟨rfl, ok_219, by decide +kernel⟩
set_option maxRecDepth 1000000 in
theorem lf_220 : OKx 220 (e_220, bl_220) := ⟨rfl, ok_220, by decide +kernel⟩
set_option maxRecDepth 1000000 in
theorem lf_221 : OKx 221 (e_221, bl_221) := ⟨rfl, ok_221, by decide +kernel⟩
set_option maxRecDepth 1000000 in
theorem lf_222 : OKx 222 (e_222, bl_222) := ⟨rfl, ok_222, by decide +kernel⟩
set_option maxRecDepth 1000000 in
theorem lf_223 : OKx 223 (e_223, bl_223) := ⟨rfl, ok_223, by decide +kernel⟩
set_option maxRecDepth 1000000 in
theorem lf_224 : OKx 224 (e_224, bl_224) := ⟨rfl, ok_224, by decide +kernel⟩
set_option maxRecDepth 1000000 in
theorem lf_225 : OKx 225 (e_225, bl_225) := ⟨rfl, ok_225, by decide +kernel⟩
set_option maxRecDepth 1000000 in
theorem lf_226 : OKx 226 (e_226, bl_226) := ⟨rfl, ok_226, by decide +kernel⟩
set_option maxRecDepth 1000000 in
theorem lf_227 : OKx 227 (e_227, bl_227) := ⟨rfl, ok_227, by decide +kernel⟩
set_option maxRecDepth 1000000 in
theorem lf_228 : OKx 228 (e_228, bl_228) := ⟨rfl, ok_228, by decide +kernel⟩
set_option maxRecDepth 1000000 in
theorem lf_229 : OKx 229 (e_229, bl_229) := ⟨rfl, ok_229, by decide +kernel⟩
set_option maxRecDepth 1000000 in
theorem lf_230 : OKx 230 (e_230, bl_230) := ⟨rfl, ok_230, by decide +kernel⟩
set_option maxRecDepth 1000000 in
theorem lf_231 : OKx 231 (e_231, bl_231) := ⟨rfl, ok_231, by decide +kernel⟩
set_option maxRecDepth 1000000 in
theorem lf_232 : OKx 232 (e_232, bl_232) := ⟨rfl, ok_232, by decide +kernel⟩
set_option maxRecDepth 1000000 in
theorem lf_233 : OKx 233 (e_233, bl_233) := ⟨rfl, ok_233, by decide +kernel⟩
set_option maxRecDepth 1000000 in
theorem lf_234 : OKx 234 (e_234, bl_234) := ⟨rfl, ok_234, by decide +kernel⟩
set_option maxRecDepth 1000000 in
theorem lf_235 : OKx 235 (e_235, bl_235) := ⟨rfl, ok_235, by decide +kernel⟩
set_option maxRecDepth 1000000 in
theorem lf_236 : OKx 236 (e_236, bl_236) := ⟨rfl, ok_236, by decide +kernel⟩
set_option maxRecDepth 1000000 in
theorem lf_237 : OKx 237 (e_237, bl_237) := ⟨rfl, ok_237, by decide +kernel⟩
set_option maxRecDepth 1000000 in
theorem lf_238 : OKx 238 (e_238, bl_238) := ⟨rfl, ok_238, by decide +kernel⟩
set_option maxRecDepth 1000000 in
theorem lf_239 : OKx 239 (e_239, bl_239) := ⟨rfl, ok_239, by decide +kernel⟩
set_option maxRecDepth 1000000 in
theorem lf_240 : OKx 240 (e_240, bl_240) := ⟨rfl, ok_240, by decide +kernel⟩
set_option maxRecDepth 1000000 in
theorem lf_241 : OKx 241 (e_241, bl_241) := ⟨rfl, ok_241, by decide +kernel⟩
set_option maxRecDepth 1000000 in
theorem lf_242 : OKx 242 (e_242, bl_242) := ⟨rfl, ok_242, by decide +kernel⟩
set_option maxRecDepth 1000000 in
theorem lf_243 : OKx 243 (e_243, bl_243) := ⟨rfl, ok_243, by decide +kernel⟩
set_option maxRecDepth 1000000 in
theorem lf_244 : OKx 244 (e_244, bl_244) := ⟨rfl, ok_244, by decide +kernel⟩
set_option maxRecDepth 1000000 in
theorem lf_245 : OKx 245 (e_245, bl_245) := ⟨rfl, ok_245, by decide +kernel⟩
set_option maxRecDepth 1000000 in
theorem lf_246 : OKx 246 (e_246, bl_246) := ⟨rfl, ok_246, by decide +kernel⟩
set_option maxRecDepth 1000000 in
theorem lf_247 : OKx 247 (e_247, bl_247) := ⟨rfl, ok_247, by decide +kernel⟩
set_option maxRecDepth 1000000 in
theorem lf_248 : OKx 248 (e_248, bl_248) := ⟨rfl, ok_248, by decide +kernel⟩
set_option maxRecDepth 1000000 in
theorem lf_249 : OKx 249 (e_249, bl_249) := ⟨rfl, ok_249, by decide +kernel⟩
set_option maxRecDepth 1000000 in
theorem lf_250 : OKx 250 (e_250, bl_250) := ⟨rfl, ok_250, by decide +kernel⟩
set_option maxRecDepth 1000000 in
theorem lf_251 : OKx 251 (e_251, bl_251) := ⟨rfl, ok_251, by decide +kernel⟩
set_option maxRecDepth 1000000 in
theorem lf_252 : OKx 252 (e_252, bl_252) := ⟨rfl, ok_252, by decide +kernel⟩
set_option maxRecDepth 1000000 in
theorem lf_253 : OKx 253 (e_253, bl_253) := ⟨rfl, ok_253, by decide +kernel⟩
set_option maxRecDepth 1000000 in
theorem lf_254 : OKx 254 (e_254, bl_254) := ⟨rfl, ok_254, by decide +kernel⟩
set_option maxRecDepth 1000000 in
theorem lf_255 : OKx 255 (e_255, bl_255) := ⟨rfl, ok_255, by decide +kernel⟩
set_option maxRecDepth 1000000 in
theorem lf_256 : OKx 256 (e_256, bl_256) := ⟨rfl, ok_256, by decide +kernel⟩
set_option maxRecDepth 1000000 in
theorem lf_257 : OKx 257 (e_257, bl_257) := ⟨rfl, ok_257, by decide +kernel⟩
set_option maxRecDepth 1000000 in
theorem lf_258 : OKx 258 (e_258, bl_258) := ⟨rfl, ok_258, by decide +kernel⟩
set_option maxRecDepth 1000000 in
theorem lf_259 : OKx 259 (e_259, bl_259) := ⟨rfl, ok_259, by decide +kernel⟩
set_option maxRecDepth 1000000 in
theorem lf_260 : OKx 260 (e_260, bl_260) := ⟨rfl, ok_260, by decide +kernel⟩
set_option maxRecDepth 1000000 in
theorem lf_261 : OKx 261 (e_261, bl_261) := ⟨rfl, ok_261, by decide +kernel⟩
set_option maxRecDepth 1000000 in
theorem lf_262 : OKx 262 (e_262, bl_262) := ⟨rfl, ok_262, by decide +kernel⟩
set_option maxRecDepth 1000000 in
theorem lf_263 : OKx 263 (e_263, bl_263) := ⟨rfl, ok_263, by decide +kernel⟩
set_option maxRecDepth 1000000 in
theorem lf_264 : OKx 264 (e_264, bl_264) := ⟨rfl, ok_264, by decide +kernel⟩
set_option maxRecDepth 1000000 in
theorem lf_265 : OKx 265 (e_265, bl_265) := ⟨rfl, ok_265, by decide +kernel⟩
set_option maxRecDepth 1000000 in
theorem lf_266 : OKx 266 (e_266, bl_266) := ⟨rfl, ok_266, by decide +kernel⟩
set_option maxRecDepth 1000000 in
theorem lf_267 : OKx 267 (e_267, bl_267) := ⟨rfl, ok_267, by decide +kernel⟩
set_option maxRecDepth 1000000 in
theorem lf_268 : OKx 268 (e_268, bl_268) := ⟨rfl, ok_268, by decide +kernel⟩
set_option maxRecDepth 1000000 in
theorem lf_269 : OKx 269 (e_269, bl_269) := ⟨rfl, ok_269, by decide +kernel⟩
set_option maxRecDepth 1000000 in
theorem lf_270 : OKx 270 (e_270, bl_270) := ⟨rfl, ok_270, by decide +kernel⟩
set_option maxRecDepth 1000000 in
theorem lf_271 : OKx 271 (e_271, bl_271) := ⟨rfl, ok_271, by decide +kernel⟩
set_option maxRecDepth 1000000 in
theorem lf_272 : OKx 272 (e_272, bl_272) := ⟨rfl, ok_272, by decide +kernel⟩
set_option maxRecDepth 1000000 in
theorem lf_273 : OKx 273 (e_273, bl_273) := ⟨rfl, ok_273, by decide +kernel⟩
set_option maxRecDepth 1000000 in
theorem lf_274 : OKx 274 (e_274, bl_274) := ⟨rfl, ok_274, by decide +kernel⟩
set_option maxRecDepth 1000000 in
theorem lf_275 : OKx 275 (e_275, bl_275) := ⟨rfl, ok_275, by decide +kernel⟩
set_option maxRecDepth 1000000 in
theorem lf_276 : OKx 276 (e_276, bl_276) := ⟨rfl, ok_276, by decide +kernel⟩
set_option maxRecDepth 1000000 in
theorem lf_277 : OKx 277 (e_277, bl_277) := ⟨rfl, ok_277, by decide +kernel⟩
set_option maxRecDepth 1000000 in
theorem lf_278 : OKx 278 (e_278, bl_278) := ⟨rfl, ok_278, by decide +kernel⟩
set_option maxRecDepth 1000000 in
theorem lf_279 : OKx 279 (e_279, bl_279) := ⟨rfl, ok_279, by decide +kernel⟩
set_option maxRecDepth 1000000 in
theorem lf_280 : OKx 280 (e_280, bl_280) := ⟨rfl, ok_280, by decide +kernel⟩
set_option maxRecDepth 1000000 in
theorem lf_281 : OKx 281 (e_281, bl_281) := ⟨rfl, ok_281, by decide +kernel⟩
set_option maxRecDepth 1000000 in
theorem lf_282 : OKx 282 (e_282, bl_282) := ⟨rfl, ok_282, by decide +kernel⟩
set_option maxRecDepth 1000000 in
theorem lf_283 : OKx 283 (e_283, bl_283) := ⟨rfl, ok_283, by decide +kernel⟩
set_option maxRecDepth 1000000 in
theorem lf_284 : OKx 284 (e_284, bl_284) := ⟨rfl, ok_284, by decide +kernel⟩
set_option maxRecDepth 1000000 in
theorem lf_285 : OKx 285 (e_285, bl_285) := ⟨rfl, ok_285, by decide +kernel⟩
set_option maxRecDepth 1000000 in
theorem lf_286 : OKx 286 (e_286, bl_286) := ⟨rfl, ok_286, by decide +kernel⟩
set_option maxRecDepth 1000000 in
theorem lf_287 : OKx 287 (e_287, bl_287) := ⟨rfl, ok_287, by decide +kernel⟩
set_option maxRecDepth 1000000 in
theorem lf_288 : OKx 288 (e_288, bl_288) := ⟨rfl, ok_288, by decide +kernel⟩
set_option maxRecDepth 1000000 in
theorem lf_289 : OKx 289 (e_289, bl_289) := ⟨rfl, ok_289, by decide +kernel⟩
set_option maxRecDepth 1000000 in
theorem lf_290 : OKx 290 (e_290, bl_290) := ⟨rfl, ok_290, by decide +kernel⟩
set_option maxRecDepth 1000000 in
theorem lf_291 : OKx 291 (e_291, bl_291) := ⟨rfl, ok_291, by decide +kernel⟩
set_option maxRecDepth 1000000 in
theorem lf_292 : OKx 292 (e_292, bl_292) := ⟨rfl, ok_292, by decide +kernel⟩
set_option maxRecDepth 1000000 in
theorem lf_293 : OKx 293 (e_293, bl_293) := ⟨rfl, ok_293, by decide +kernel⟩
set_option maxRecDepth 1000000 in
theorem lf_294 : OKx 294 (e_294, bl_294) := ⟨rfl, ok_294, by decide +kernel⟩
set_option maxRecDepth 1000000 in
theorem lf_295 : OKx 295 (e_295, bl_295) := ⟨rfl, ok_295, by decide +kernel⟩
set_option maxRecDepth 1000000 in
theorem lf_296 : OKx 296 (e_296, bl_296) := ⟨rfl, ok_296, by decide +kernel⟩
set_option maxRecDepth 1000000 in
theorem lf_297 : OKx 297 (e_297, bl_297) := ⟨rfl, ok_297, by decide +kernel⟩
set_option maxRecDepth 1000000 in
theorem lf_298 : OKx 298 (e_298, bl_298) := ⟨rfl, ok_298, by decide +kernel⟩
set_option maxRecDepth 1000000 in
theorem lf_299 : OKx 299 (e_299, bl_299) := ⟨rfl, ok_299, by decide +kernel⟩
set_option maxRecDepth 1000000 in
theorem lf_300 : OKx 300 (e_300, bl_300) := ⟨rfl, ok_300, by decide +kernel⟩
set_option maxRecDepth 1000000 in
theorem lf_301 : OKx 301 (e_301, bl_301) := ⟨rfl, ok_301, by decide +kernel⟩
set_option maxRecDepth 1000000 in
theorem lf_302 : OKx 302 (e_302, bl_302) := ⟨rfl, ok_302, by decide +kernel⟩
set_option maxRecDepth 1000000 in
theorem lf_303 : OKx 303 (e_303, bl_303) := ⟨rfl, ok_303, by decide +kernel⟩
set_option maxRecDepth 1000000 in
theorem lf_304 : OKx 304 (e_304, bl_304) := ⟨rfl, ok_304, by decide +kernel⟩
set_option maxRecDepth 1000000 in
theorem lf_305 : OKx 305 (e_305, bl_305) := ⟨rfl, ok_305, by decide +kernel⟩
set_option maxRecDepth 1000000 in
theorem lf_306 : OKx 306 (e_306, bl_306) := ⟨rfl, ok_306, by decide +kernel⟩
set_option maxRecDepth 1000000 in
theorem lf_307 : OKx 307 (e_307, bl_307) := ⟨rfl, ok_307, by decide +kernel⟩
set_option maxRecDepth 1000000 in
theorem lf_308 : OKx 308 (e_308, bl_308) := ⟨rfl, ok_308, by decide +kernel⟩
set_option maxRecDepth 1000000 in
theorem lf_309 : OKx 309 (e_309, bl_309) := ⟨rfl, ok_309, by decide +kernel⟩
set_option maxRecDepth 1000000 in
theorem lf_310 : OKx 310 (e_310, bl_310) := ⟨rfl, ok_310, by decide +kernel⟩
set_option maxRecDepth 1000000 in
theorem lf_311 : OKx 311 (e_311, bl_311) := ⟨rfl, ok_311, by decide +kernel⟩
set_option maxRecDepth 1000000 in
theorem lf_312 : OKx 312 (e_312, bl_312) := ⟨rfl, ok_312, by decide +kernel⟩
set_option maxRecDepth 1000000 in
theorem lf_313 : OKx 313 (e_313, bl_313) := ⟨rfl, ok_313, by decide +kernel⟩
set_option maxRecDepth 1000000 in
theorem lf_314 : OKx 314 (e_314, bl_314) := ⟨rfl, ok_314, by decide +kernel⟩
set_option maxRecDepth 1000000 in
theorem lf_315 : OKx 315 (e_315, bl_315) := ⟨rfl, ok_315, by decide +kernel⟩
set_option maxRecDepth 1000000 in
theorem lf_316 : OKx 316 (e_316, bl_316) := ⟨rfl, ok_316, by decide +kernel⟩
set_option maxRecDepth 1000000 in
theorem lf_317 : OKx 317 (e_317, bl_317) := ⟨rfl, ok_317, by decide +kernel⟩
set_option maxRecDepth 1000000 in
theorem lf_318 : OKx 318 (e_318, bl_318) := ⟨rfl, ok_318, by decide +kernel⟩
set_option maxRecDepth 1000000 in
theorem lf_319 : OKx 319 (e_319, bl_319) := ⟨rfl, ok_319, by decide +kernel⟩
set_option maxRecDepth 1000000 in
theorem lf_320 : OKx 320 (e_320, bl_320) := ⟨rfl, ok_320, by decide +kernel⟩
set_option maxRecDepth 1000000 in
theorem lf_321 : OKx 321 (e_321, bl_321) := ⟨rfl, ok_321, by decide +kernel⟩
set_option maxRecDepth 1000000 in
theorem lf_322 : OKx 322 (e_322, bl_322) := ⟨rfl, ok_322, by decide +kernel⟩
set_option maxRecDepth 1000000 in
theorem lf_323 : OKx 323 (e_323, bl_323) := ⟨rfl, ok_323, by decide +kernel⟩
set_option maxRecDepth 1000000 in
theorem lf_324 : OKx 324 (e_324, bl_324) := ⟨rfl, ok_324, by decide +kernel⟩
set_option maxRecDepth 1000000 in
theorem lf_325 : OKx 325 (e_325, bl_325) := ⟨rfl, ok_325, by decide +kernel⟩
set_option maxRecDepth 1000000 in
theorem lf_326 : OKx 326 (e_326, bl_326) := ⟨rfl, ok_326, by decide +kernel⟩
set_option maxRecDepth 1000000 in
theorem lf_327 : OKx 327 (e_327, bl_327) := ⟨rfl, ok_327, by decide +kernel⟩
set_option maxRecDepth 1000000 in
theorem lf_328 : OKx 328 (e_328, bl_328) := ⟨rfl, ok_328, by decide +kernel⟩
set_option maxRecDepth 1000000 in
theorem lf_329 : OKx 329 (e_329, bl_329) := ⟨rfl, ok_329, by decide +kernel⟩
set_option maxRecDepth 1000000 in
theorem lf_330 : OKx 330 (e_330, bl_330) := ⟨rfl, ok_330, by decide +kernel⟩
set_option maxRecDepth 1000000 in
theorem lf_331 : OKx 331 (e_331, bl_331) := ⟨rfl, ok_331, by decide +kernel⟩
set_option maxRecDepth 1000000 in
theorem lf_332 : OKx 332 (e_332, bl_332) := ⟨rfl, ok_332, by decide +kernel⟩
set_option maxRecDepth 1000000 in
theorem lf_333 : OKx 333 (e_333, bl_333) := ⟨rfl, ok_333, by decide +kernel⟩
set_option maxRecDepth 1000000 in
theorem lf_334 : OKx 334 (e_334, bl_334) := ⟨rfl, ok_334, by decide +kernel⟩
set_option maxRecDepth 1000000 in
theorem lf_335 : OKx 335 (e_335, bl_335) := ⟨rfl, ok_335, by decide +kernel⟩
set_option maxRecDepth 1000000 in
theorem lf_336 : OKx 336 (e_336, bl_336) := ⟨rfl, ok_336, by decide +kernel⟩
set_option maxRecDepth 1000000 in
theorem lf_337 : OKx 337 (e_337, bl_337) := ⟨rfl, ok_337, by decide +kernel⟩
set_option maxRecDepth 1000000 in
theorem lf_338 : OKx 338 (e_338, bl_338) := ⟨rfl, ok_338, by decide +kernel⟩
set_option maxRecDepth 1000000 in
theorem lf_339 : OKx 339 (e_339, bl_339) := ⟨rfl, ok_339, by decide +kernel⟩
set_option maxRecDepth 1000000 in
theorem lf_340 : OKx 340 (e_340, bl_340) := ⟨rfl, ok_340, by decide +kernel⟩
set_option maxRecDepth 1000000 in
theorem lf_341 : OKx 341 (e_341, bl_341) := ⟨rfl, ok_341, by decide +kernel⟩
set_option maxRecDepth 1000000 in
theorem lf_342 : OKx 342 (e_342, bl_342) := ⟨rfl, ok_342, by decide +kernel⟩
set_option maxRecDepth 1000000 in
theorem lf_343 : OKx 343 (e_343, bl_343) := ⟨rfl, ok_343, by decide +kernel⟩
set_option maxRecDepth 1000000 in
theorem lf_344 : OKx 344 (e_344, bl_344) := ⟨rfl, ok_344, by decide +kernel⟩
set_option maxRecDepth 1000000 in
theorem lf_345 : OKx 345 (e_345, bl_345) := ⟨rfl, ok_345, by decide +kernel⟩
set_option maxRecDepth 1000000 in
theorem lf_346 : OKx 346 (e_346, bl_346) := ⟨rfl, ok_346, by decide +kernel⟩
set_option maxRecDepth 1000000 in
theorem lf_347 : OKx 347 (e_347, bl_347) := ⟨rfl, ok_347, by decide +kernel⟩
set_option maxRecDepth 1000000 in
theorem lf_348 : OKx 348 (e_348, bl_348) := ⟨rfl, ok_348, by decide +kernel⟩
set_option maxRecDepth 1000000 in
theorem lf_349 : OKx 349 (e_349, bl_349) := ⟨rfl, ok_349, by decide +kernel⟩
set_option maxRecDepth 1000000 in
theorem lf_350 : OKx 350 (e_350, bl_350) := ⟨rfl, ok_350, by decide +kernel⟩
set_option maxRecDepth 1000000 in
theorem lf_351 : OKx 351 (e_351, bl_351) := ⟨rfl, ok_351, by decide +kernel⟩
set_option maxRecDepth 1000000 in
theorem lf_352 : OKx 352 (e_352, bl_352) := ⟨rfl, ok_352, by decide +kernel⟩
set_option maxRecDepth 1000000 in
theorem lf_353 : OKx 353 (e_353, bl_353) := ⟨rfl, ok_353, by decide +kernel⟩
set_option maxRecDepth 1000000 in
theorem lf_354 : OKx 354 (e_354, bl_354) := ⟨rfl, ok_354, by decide +kernel⟩
set_option maxRecDepth 1000000 in
theorem lf_355 : OKx 355 (e_355, bl_355) := ⟨rfl, ok_355, by decide +kernel⟩
set_option maxRecDepth 1000000 in
theorem lf_356 : OKx 356 (e_356, bl_356) := ⟨rfl, ok_356, by decide +kernel⟩
set_option maxRecDepth 1000000 in
theorem lf_357 : OKx 357 (e_357, bl_357) := ⟨rfl, ok_357, by decide +kernel⟩
set_option maxRecDepth 1000000 in
theorem lf_358 : OKx 358 (e_358, bl_358) := ⟨rfl, ok_358, by decide +kernel⟩
set_option maxRecDepth 1000000 in
theorem lf_359 : OKx 359 (e_359, bl_359) := ⟨rfl, ok_359, by decide +kernel⟩
set_option maxRecDepth 1000000 in
theorem lf_360 : OKx 360 (e_360, bl_360) := ⟨rfl, ok_360, by decide +kernel⟩
set_option maxRecDepth 1000000 in
theorem lf_361 : OKx 361 (e_361, bl_361) := ⟨rfl, ok_361, by decide +kernel⟩
set_option maxRecDepth 1000000 in
theorem lf_362 : OKx 362 (e_362, bl_362) := ⟨rfl, ok_362, by decide +kernel⟩
set_option maxRecDepth 1000000 in
theorem lf_363 : OKx 363 (e_363, bl_363) := ⟨rfl, ok_363, by decide +kernel⟩
set_option maxRecDepth 1000000 in
theorem lf_364 : OKx 364 (e_364, bl_364) := ⟨rfl, ok_364, by decide +kernel⟩
set_option maxRecDepth 1000000 in
theorem lf_365 : OKx 365 (e_365, bl_365) := ⟨rfl, ok_365, by decide +kernel⟩
set_option maxRecDepth 1000000 in
theorem lf_366 : OKx 366 (e_366, bl_366) := ⟨rfl, ok_366, by decide +kernel⟩
set_option maxRecDepth 1000000 in
theorem lf_367 : OKx 367 (e_367, bl_367) := ⟨rfl, ok_367, by decide +kernel⟩
set_option maxRecDepth 1000000 in
theorem lf_368 : OKx 368 (e_368, bl_368) := ⟨rfl, ok_368, by decide +kernel⟩
set_option maxRecDepth 1000000 in
theorem lf_369 : OKx 369 (e_369, bl_369) := ⟨rfl, ok_369, by decide +kernel⟩
set_option maxRecDepth 1000000 in
theorem lf_370 : OKx 370 (e_370, bl_370) := ⟨rfl, ok_370, by decide +kernel⟩
set_option maxRecDepth 1000000 in
theorem lf_371 : OKx 371 (e_371, bl_371) := ⟨rfl, ok_371, by decide +kernel⟩
set_option maxRecDepth 1000000 in
theorem lf_372 : OKx 372 (e_372, bl_372) := ⟨rfl, ok_372, by decide +kernel⟩
set_option maxRecDepth 1000000 in
theorem lf_373 : OKx 373 (e_373, bl_373) := ⟨rfl, ok_373, by decide +kernel⟩
set_option maxRecDepth 1000000 in
theorem lf_374 : OKx 374 (e_374, bl_374) := ⟨rfl, ok_374, by decide +kernel⟩
set_option maxRecDepth 1000000 in
theorem lf_375 : OKx 375 (e_375, bl_375) := ⟨rfl, ok_375, by decide +kernel⟩
set_option maxRecDepth 1000000 in
theorem lf_376 : OKx 376 (e_376, bl_376) := ⟨rfl, ok_376, by decide +kernel⟩
set_option maxRecDepth 1000000 in
theorem lf_377 : OKx 377 (e_377, bl_377) := ⟨rfl, ok_377, by decide +kernel⟩
set_option maxRecDepth 1000000 in
theorem lf_378 : OKx 378 (e_378, bl_378) := ⟨rfl, ok_378, by decide +kernel⟩
set_option maxRecDepth 1000000 in
theorem lf_379 : OKx 379 (e_379, bl_379) := ⟨rfl, ok_379, by decide +kernel⟩
set_option maxRecDepth 1000000 in
theorem lf_380 : OKx 380 (e_380, bl_380) := ⟨rfl, ok_380, by decide +kernel⟩
set_option maxRecDepth 1000000 in
theorem lf_381 : OKx 381 (e_381, bl_381) := ⟨rfl, ok_381, by decide +kernel⟩
set_option maxRecDepth 1000000 in
theorem lf_382 : OKx 382 (e_382, bl_382) := ⟨rfl, ok_382, by decide +kernel⟩
def TR (y : Nat) : MIt × List Bk := cond (Nat.ble 191 y) (cond (Nat.ble 287 y) (cond (Nat.ble 335 y) (cond (Nat.ble 359 y) (cond (Nat.ble 371 y) (cond (Nat.ble 377 y) (cond (Nat.ble 380 y) (cond (Nat.ble 381 y) (cond (Nat.ble 382 y) ((e_382, bl_382)) ((e_381, bl_381))) ((e_380, bl_380))) (cond (Nat.ble 378 y) (cond (Nat.ble 379 y) ((e_379, bl_379)) ((e_378, bl_378))) ((e_377, bl_377)))) (cond (Nat.ble 374 y) (cond (Nat.ble 375 y) (cond (Nat.ble 376 y) ((e_376, bl_376)) ((e_375, bl_375))) ((e_374, bl_374))) (cond (Nat.ble 372 y) (cond (Nat.ble 373 y) ((e_373, bl_373)) ((e_372, bl_372))) ((e_371, bl_371))))) (cond (Nat.ble 365 y) (cond (Nat.ble 368 y) (cond (Nat.ble 369 y) (cond (Nat.ble 370 y) ((e_370, bl_370)) ((e_369, bl_369))) ((e_368, bl_368))) (cond (Nat.ble 366 y) (cond (Nat.ble 367 y) ((e_367, bl_367)) ((e_366, bl_366))) ((e_365, bl_365)))) (cond (Nat.ble 362 y) (cond (Nat.ble 363 y) (cond (Nat.ble 364 y) ((e_364, bl_364)) ((e_363, bl_363))) ((e_362, bl_362))) (cond (Nat.ble 360 y) (cond (Nat.ble 361 y) ((e_361, bl_361)) ((e_360, bl_360))) ((e_359, bl_359)))))) (cond (Nat.ble 347 y) (cond (Nat.ble 353 y) (cond (Nat.ble 356 y) (cond (Nat.ble 357 y) (cond (Nat.ble 358 y) ((e_358, bl_358)) ((e_357, bl_357))) ((e_356, bl_356))) (cond (Nat.ble 354 y) (cond (Nat.ble 355 y) ((e_355, bl_355)) ((e_354, bl_354))) ((e_353, bl_353)))) (cond (Nat.ble 350 y) (cond (Nat.ble 351 y) (cond (Nat.ble 352 y) ((e_352, bl_352)) ((e_351, bl_351))) ((e_350, bl_350))) (cond (Nat.ble 348 y) (cond (Nat.ble 349 y) ((e_349, bl_349)) ((e_348, bl_348))) ((e_347, bl_347))))) (cond (Nat.ble 341 y) (cond (Nat.ble 344 y) (cond (Nat.ble 345 y) (cond (Nat.ble 346 y) ((e_346, bl_346)) ((e_345, bl_345))) ((e_344, bl_344))) (cond (Nat.ble 342 y) (cond (Nat.ble 343 y) ((e_343, bl_343)) ((e_342, bl_342))) ((e_341, bl_341)))) (cond (Nat.ble 338 y) (cond (Nat.ble 339 y) (cond (Nat.ble 340 y) ((e_340, bl_340)) ((e_339, bl_339))) ((e_338, bl_338))) (cond (Nat.ble 336 y) (cond (Nat.ble 337 y) ((e_337, bl_337)) ((e_336, bl_336))) ((e_335, bl_335))))))) (cond (Nat.ble 311 y) (cond (Nat.ble 323 y) (cond (Nat.ble 329 y) (cond (Nat.ble 332 y) (cond (Nat.ble 333 y) (cond (Nat.ble 334 y) ((e_334, bl_334)) ((e_333, bl_333))) ((e_332, bl_332))) (cond (Nat.ble 330 y) (cond (Nat.ble 331 y) ((e_331, bl_331)) ((e_330, bl_330))) ((e_329, bl_329)))) (cond (Nat.ble 326 y) (cond (Nat.ble 327 y) (cond (Nat.ble 328 y) ((e_328, bl_328)) ((e_327, bl_327))) ((e_326, bl_326))) (cond (Nat.ble 324 y) (cond (Nat.ble 325 y) ((e_325, bl_325)) ((e_324, bl_324))) ((e_323, bl_323))))) (cond (Nat.ble 317 y) (cond (Nat.ble 320 y) (cond (Nat.ble 321 y) (cond (Nat.ble 322 y) ((e_322, bl_322)) ((e_321, bl_321))) ((e_320, bl_320))) (cond (Nat.ble 318 y) (cond (Nat.ble 319 y) ((e_319, bl_319)) ((e_318, bl_318))) ((e_317, bl_317)))) (cond (Nat.ble 314 y) (cond (Nat.ble 315 y) (cond (Nat.ble 316 y) ((e_316, bl_316)) ((e_315, bl_315))) ((e_314, bl_314))) (cond (Nat.ble 312 y) (cond (Nat.ble 313 y) ((e_313, bl_313)) ((e_312, bl_312))) ((e_311, bl_311)))))) (cond (Nat.ble 299 y) (cond (Nat.ble 305 y) (cond (Nat.ble 308 y) (cond (Nat.ble 309 y) (cond (Nat.ble 310 y) ((e_310, bl_310)) ((e_309, bl_309))) ((e_308, bl_308))) (cond (Nat.ble 306 y) (cond (Nat.ble 307 y) ((e_307, bl_307)) ((e_306, bl_306))) ((e_305, bl_305)))) (cond (Nat.ble 302 y) (cond (Nat.ble 303 y) (cond (Nat.ble 304 y) ((e_304, bl_304)) ((e_303, bl_303))) ((e_302, bl_302))) (cond (Nat.ble 300 y) (cond (Nat.ble 301 y) ((e_301, bl_301)) ((e_300, bl_300))) ((e_299, bl_299))))) (cond (Nat.ble 293 y) (cond (Nat.ble 296 y) (cond (Nat.ble 297 y) (cond (Nat.ble 298 y) ((e_298, bl_298)) ((e_297, bl_297))) ((e_296, bl_296))) (cond (Nat.ble 294 y) (cond (Nat.ble 295 y) ((e_295, bl_295)) ((e_294, bl_294))) ((e_293, bl_293)))) (cond (Nat.ble 290 y) (cond (Nat.ble 291 y) (cond (Nat.ble 292 y) ((e_292, bl_292)) ((e_291, bl_291))) ((e_290, bl_290))) (cond (Nat.ble 288 y) (cond (Nat.ble 289 y) ((e_289, bl_289)) ((e_288, bl_288))) ((e_287, bl_287)))))))) (cond (Nat.ble 239 y) (cond (Nat.ble 263 y) (cond (Nat.ble 275 y) (cond (Nat.ble 281 y) (cond (Nat.ble 284 y) (cond (Nat.ble 285 y) (cond (Nat.ble 286 y) ((e_286, bl_286)) ((e_285, bl_285))) ((e_284, bl_284))) (cond (Nat.ble 282 y) (cond (Nat.ble 283 y) ((e_283, bl_283)) ((e_282, bl_282))) ((e_281, bl_281)))) (cond (Nat.ble 278 y) (cond (Nat.ble 279 y) (cond (Nat.ble 280 y) ((e_280, bl_280)) ((e_279, bl_279))) ((e_278, bl_278))) (cond (Nat.ble 276 y) (cond (Nat.ble 277 y) ((e_277, bl_277)) ((e_276, bl_276))) ((e_275, bl_275))))) (cond (Nat.ble 269 y) (cond (Nat.ble 272 y) (cond (Nat.ble 273 y) (cond (Nat.ble 274 y) ((e_274, bl_274)) ((e_273, bl_273))) ((e_272, bl_272))) (cond (Nat.ble 270 y) (cond (Nat.ble 271 y) ((e_271, bl_271)) ((e_270, bl_270))) ((e_269, bl_269)))) (cond (Nat.ble 266 y) (cond (Nat.ble 267 y) (cond (Nat.ble 268 y) ((e_268, bl_268)) ((e_267, bl_267))) ((e_266, bl_266))) (cond (Nat.ble 264 y) (cond (Nat.ble 265 y) ((e_265, bl_265)) ((e_264, bl_264))) ((e_263, bl_263)))))) (cond (Nat.ble 251 y) (cond (Nat.ble 257 y) (cond (Nat.ble 260 y) (cond (Nat.ble 261 y) (cond (Nat.ble 262 y) ((e_262, bl_262)) ((e_261, bl_261))) ((e_260, bl_260))) (cond (Nat.ble 258 y) (cond (Nat.ble 259 y) ((e_259, bl_259)) ((e_258, bl_258))) ((e_257, bl_257)))) (cond (Nat.ble 254 y) (cond (Nat.ble 255 y) (cond (Nat.ble 256 y) ((e_256, bl_256)) ((e_255, bl_255))) ((e_254, bl_254))) (cond (Nat.ble 252 y) (cond (Nat.ble 253 y) ((e_253, bl_253)) ((e_252, bl_252))) ((e_251, bl_251))))) (cond (Nat.ble 245 y) (cond (Nat.ble 248 y) (cond (Nat.ble 249 y) (cond (Nat.ble 250 y) ((e_250, bl_250)) ((e_249, bl_249))) ((e_248, bl_248))) (cond (Nat.ble 246 y) (cond (Nat.ble 247 y) ((e_247, bl_247)) ((e_246, bl_246))) ((e_245, bl_245)))) (cond (Nat.ble 242 y) (cond (Nat.ble 243 y) (cond (Nat.ble 244 y) ((e_244, bl_244)) ((e_243, bl_243))) ((e_242, bl_242))) (cond (Nat.ble 240 y) (cond (Nat.ble 241 y) ((e_241, bl_241)) ((e_240, bl_240))) ((e_239, bl_239))))))) (cond (Nat.ble 215 y) (cond (Nat.ble 227 y) (cond (Nat.ble 233 y) (cond (Nat.ble 236 y) (cond (Nat.ble 237 y) (cond (Nat.ble 238 y) ((e_238, bl_238)) ((e_237, bl_237))) ((e_236, bl_236))) (cond (Nat.ble 234 y) (cond (Nat.ble 235 y) ((e_235, bl_235)) ((e_234, bl_234))) ((e_233, bl_233)))) (cond (Nat.ble 230 y) (cond (Nat.ble 231 y) (cond (Nat.ble 232 y) ((e_232, bl_232)) ((e_231, bl_231))) ((e_230, bl_230))) (cond (Nat.ble 228 y) (cond (Nat.ble 229 y) ((e_229, bl_229)) ((e_228, bl_228))) ((e_227, bl_227))))) (cond (Nat.ble 221 y) (cond (Nat.ble 224 y) (cond (Nat.ble 225 y) (cond (Nat.ble 226 y) ((e_226, bl_226)) ((e_225, bl_225))) ((e_224, bl_224))) (cond (Nat.ble 222 y) (cond (Nat.ble 223 y) ((e_223, bl_223)) ((e_222, bl_222))) ((e_221, bl_221)))) (cond (Nat.ble 218 y) (cond (Nat.ble 219 y) (cond (Nat.ble 220 y) ((e_220, bl_220)) ((e_219, bl_219))) ((e_218, bl_218))) (cond (Nat.ble 216 y) (cond (Nat.ble 217 y) ((e_217, bl_217)) ((e_216, bl_216))) ((e_215, bl_215)))))) (cond (Nat.ble 203 y) (cond (Nat.ble 209 y) (cond (Nat.ble 212 y) (cond (Nat.ble 213 y) (cond (Nat.ble 214 y) ((e_214, bl_214)) ((e_213, bl_213))) ((e_212, bl_212))) (cond (Nat.ble 210 y) (cond (Nat.ble 211 y) ((e_211, bl_211)) ((e_210, bl_210))) ((e_209, bl_209)))) (cond (Nat.ble 206 y) (cond (Nat.ble 207 y) (cond (Nat.ble 208 y) ((e_208, bl_208)) ((e_207, bl_207))) ((e_206, bl_206))) (cond (Nat.ble 204 y) (cond (Nat.ble 205 y) ((e_205, bl_205)) ((e_204, bl_204))) ((e_203, bl_203))))) (cond (Nat.ble 197 y) (cond (Nat.ble 200 y) (cond (Nat.ble 201 y) (cond (Nat.ble 202 y) ((e_202, bl_202)) ((e_201, bl_201))) ((e_200, bl_200))) (cond (Nat.ble 198 y) (cond (Nat.ble 199 y) ((e_199, bl_199)) ((e_198, bl_198))) ((e_197, bl_197)))) (cond (Nat.ble 194 y) (cond (Nat.ble 195 y) (cond (Nat.ble 196 y) ((e_196, bl_196)) ((e_195, bl_195))) ((e_194, bl_194))) (cond (Nat.ble 192 y) (cond (Nat.ble 193 y) ((e_193, bl_193)) ((e_192, bl_192))) ((e_191, bl_191))))))))) (cond (Nat.ble 95 y) (cond (Nat.ble 143 y) (cond (Nat.ble 167 y) (cond (Nat.ble 179 y) (cond (Nat.ble 185 y) (cond (Nat.ble 188 y) (cond (Nat.ble 189 y) (cond (Nat.ble 190 y) ((e_190, bl_190)) ((e_189, bl_189))) ((e_188, bl_188))) (cond (Nat.ble 186 y) (cond (Nat.ble 187 y) ((e_187, bl_187)) ((e_186, bl_186))) ((e_185, bl_185)))) (cond (Nat.ble 182 y) (cond (Nat.ble 183 y) (cond (Nat.ble 184 y) ((e_184, bl_184)) ((e_183, bl_183))) ((e_182, bl_182))) (cond (Nat.ble 180 y) (cond (Nat.ble 181 y) ((e_181, bl_181)) ((e_180, bl_180))) ((e_179, bl_179))))) (cond (Nat.ble 173 y) (cond (Nat.ble 176 y) (cond (Nat.ble 177 y) (cond (Nat.ble 178 y) ((e_178, bl_178)) ((e_177, bl_177))) ((e_176, bl_176))) (cond (Nat.ble 174 y) (cond (Nat.ble 175 y) ((e_175, bl_175)) ((e_174, bl_174))) ((e_173, bl_173)))) (cond (Nat.ble 170 y) (cond (Nat.ble 171 y) (cond (Nat.ble 172 y) ((e_172, bl_172)) ((e_171, bl_171))) ((e_170, bl_170))) (cond (Nat.ble 168 y) (cond (Nat.ble 169 y) ((e_169, bl_169)) ((e_168, bl_168))) ((e_167, bl_167)))))) (cond (Nat.ble 155 y) (cond (Nat.ble 161 y) (cond (Nat.ble 164 y) (cond (Nat.ble 165 y) (cond (Nat.ble 166 y) ((e_166, bl_166)) ((e_165, bl_165))) ((e_164, bl_164))) (cond (Nat.ble 162 y) (cond (Nat.ble 163 y) ((e_163, bl_163)) ((e_162, bl_162))) ((e_161, bl_161)))) (cond (Nat.ble 158 y) (cond (Nat.ble 159 y) (cond (Nat.ble 160 y) ((e_160, bl_160)) ((e_159, bl_159))) ((e_158, bl_158))) (cond (Nat.ble 156 y) (cond (Nat.ble 157 y) ((e_157, bl_157)) ((e_156, bl_156))) ((e_155, bl_155))))) (cond (Nat.ble 149 y) (cond (Nat.ble 152 y) (cond (Nat.ble 153 y) (cond (Nat.ble 154 y) ((e_154, bl_154)) ((e_153, bl_153))) ((e_152, bl_152))) (cond (Nat.ble 150 y) (cond (Nat.ble 151 y) ((e_151, bl_151)) ((e_150, bl_150))) ((e_149, bl_149)))) (cond (Nat.ble 146 y) (cond (Nat.ble 147 y) (cond (Nat.ble 148 y) ((e_148, bl_148)) ((e_147, bl_147))) ((e_146, bl_146))) (cond (Nat.ble 144 y) (cond (Nat.ble 145 y) ((e_145, bl_145)) ((e_144, bl_144))) ((e_143, bl_143))))))) (cond (Nat.ble 119 y) (cond (Nat.ble 131 y) (cond (Nat.ble 137 y) (cond (Nat.ble 140 y) (cond (Nat.ble 141 y) (cond (Nat.ble 142 y) ((e_142, bl_142)) ((e_141, bl_141))) ((e_140, bl_140))) (cond (Nat.ble 138 y) (cond (Nat.ble 139 y) ((e_139, bl_139)) ((e_138, bl_138))) ((e_137, bl_137)))) (cond (Nat.ble 134 y) (cond (Nat.ble 135 y) (cond (Nat.ble 136 y) ((e_136, bl_136)) ((e_135, bl_135))) ((e_134, bl_134))) (cond (Nat.ble 132 y) (cond (Nat.ble 133 y) ((e_133, bl_133)) ((e_132, bl_132))) ((e_131, bl_131))))) (cond (Nat.ble 125 y) (cond (Nat.ble 128 y) (cond (Nat.ble 129 y) (cond (Nat.ble 130 y) ((e_130, bl_130)) ((e_129, bl_129))) ((e_128, bl_128))) (cond (Nat.ble 126 y) (cond (Nat.ble 127 y) ((e_127, bl_127)) ((e_126, bl_126))) ((e_125, bl_125)))) (cond (Nat.ble 122 y) (cond (Nat.ble 123 y) (cond (Nat.ble 124 y) ((e_124, bl_124)) ((e_123, bl_123))) ((e_122, bl_122))) (cond (Nat.ble 120 y) (cond (Nat.ble 121 y) ((e_121, bl_121)) ((e_120, bl_120))) ((e_119, bl_119)))))) (cond (Nat.ble 107 y) (cond (Nat.ble 113 y) (cond (Nat.ble 116 y) (cond (Nat.ble 117 y) (cond (Nat.ble 118 y) ((e_118, bl_118)) ((e_117, bl_117))) ((e_116, bl_116))) (cond (Nat.ble 114 y) (cond (Nat.ble 115 y) ((e_115, bl_115)) ((e_114, bl_114))) ((e_113, bl_113)))) (cond (Nat.ble 110 y) (cond (Nat.ble 111 y) (cond (Nat.ble 112 y) ((e_112, bl_112)) ((e_111, bl_111))) ((e_110, bl_110))) (cond (Nat.ble 108 y) (cond (Nat.ble 109 y) ((e_109, bl_109)) ((e_108, bl_108))) ((e_107, bl_107))))) (cond (Nat.ble 101 y) (cond (Nat.ble 104 y) (cond (Nat.ble 105 y) (cond (Nat.ble 106 y) ((e_106, bl_106)) ((e_105, bl_105))) ((e_104, bl_104))) (cond (Nat.ble 102 y) (cond (Nat.ble 103 y) ((e_103, bl_103)) ((e_102, bl_102))) ((e_101, bl_101)))) (cond (Nat.ble 98 y) (cond (Nat.ble 99 y) (cond (Nat.ble 100 y) ((e_100, bl_100)) ((e_99, bl_99))) ((e_98, bl_98))) (cond (Nat.ble 96 y) (cond (Nat.ble 97 y) ((e_97, bl_97)) ((e_96, bl_96))) ((e_95, bl_95)))))))) (cond (Nat.ble 47 y) (cond (Nat.ble 71 y) (cond (Nat.ble 83 y) (cond (Nat.ble 89 y) (cond (Nat.ble 92 y) (cond (Nat.ble 93 y) (cond (Nat.ble 94 y) ((e_94, bl_94)) ((e_93, bl_93))) ((e_92, bl_92))) (cond (Nat.ble 90 y) (cond (Nat.ble 91 y) ((e_91, bl_91)) ((e_90, bl_90))) ((e_89, bl_89)))) (cond (Nat.ble 86 y) (cond (Nat.ble 87 y) (cond (Nat.ble 88 y) ((e_88, bl_88)) ((e_87, bl_87))) ((e_86, bl_86))) (cond (Nat.ble 84 y) (cond (Nat.ble 85 y) ((e_85, bl_85)) ((e_84, bl_84))) ((e_83, bl_83))))) (cond (Nat.ble 77 y) (cond (Nat.ble 80 y) (cond (Nat.ble 81 y) (cond (Nat.ble 82 y) ((e_82, bl_82)) ((e_81, bl_81))) ((e_80, bl_80))) (cond (Nat.ble 78 y) (cond (Nat.ble 79 y) ((e_79, bl_79)) ((e_78, bl_78))) ((e_77, bl_77)))) (cond (Nat.ble 74 y) (cond (Nat.ble 75 y) (cond (Nat.ble 76 y) ((e_76, bl_76)) ((e_75, bl_75))) ((e_74, bl_74))) (cond (Nat.ble 72 y) (cond (Nat.ble 73 y) ((e_73, bl_73)) ((e_72, bl_72))) ((e_71, bl_71)))))) (cond (Nat.ble 59 y) (cond (Nat.ble 65 y) (cond (Nat.ble 68 y) (cond (Nat.ble 69 y) (cond (Nat.ble 70 y) ((e_70, bl_70)) ((e_69, bl_69))) ((e_68, bl_68))) (cond (Nat.ble 66 y) (cond (Nat.ble 67 y) ((e_67, bl_67)) ((e_66, bl_66))) ((e_65, bl_65)))) (cond (Nat.ble 62 y) (cond (Nat.ble 63 y) (cond (Nat.ble 64 y) ((e_64, bl_64)) ((e_63, bl_63))) ((e_62, bl_62))) (cond (Nat.ble 60 y) (cond (Nat.ble 61 y) ((e_61, bl_61)) ((e_60, bl_60))) ((e_59, bl_59))))) (cond (Nat.ble 53 y) (cond (Nat.ble 56 y) (cond (Nat.ble 57 y) (cond (Nat.ble 58 y) ((e_58, bl_58)) ((e_57, bl_57))) ((e_56, bl_56))) (cond (Nat.ble 54 y) (cond (Nat.ble 55 y) ((e_55, bl_55)) ((e_54, bl_54))) ((e_53, bl_53)))) (cond (Nat.ble 50 y) (cond (Nat.ble 51 y) (cond (Nat.ble 52 y) ((e_52, bl_52)) ((e_51, bl_51))) ((e_50, bl_50))) (cond (Nat.ble 48 y) (cond (Nat.ble 49 y) ((e_49, bl_49)) ((e_48, bl_48))) ((e_47, bl_47))))))) (cond (Nat.ble 23 y) (cond (Nat.ble 35 y) (cond (Nat.ble 41 y) (cond (Nat.ble 44 y) (cond (Nat.ble 45 y) (cond (Nat.ble 46 y) ((e_46, bl_46)) ((e_45, bl_45))) ((e_44, bl_44))) (cond (Nat.ble 42 y) (cond (Nat.ble 43 y) ((e_43, bl_43)) ((e_42, bl_42))) ((e_41, bl_41)))) (cond (Nat.ble 38 y) (cond (Nat.ble 39 y) (cond (Nat.ble 40 y) ((e_40, bl_40)) ((e_39, bl_39))) ((e_38, bl_38))) (cond (Nat.ble 36 y) (cond (Nat.ble 37 y) ((e_37, bl_37)) ((e_36, bl_36))) ((e_35, bl_35))))) (cond (Nat.ble 29 y) (cond (Nat.ble 32 y) (cond (Nat.ble 33 y) (cond (Nat.ble 34 y) ((e_34, bl_34)) ((e_33, bl_33))) ((e_32, bl_32))) (cond (Nat.ble 30 y) (cond (Nat.ble 31 y) ((e_31, bl_31)) ((e_30, bl_30))) ((e_29, bl_29)))) (cond (Nat.ble 26 y) (cond (Nat.ble 27 y) (cond (Nat.ble 28 y) ((e_28, bl_28)) ((e_27, bl_27))) ((e_26, bl_26))) (cond (Nat.ble 24 y) (cond (Nat.ble 25 y) ((e_25, bl_25)) ((e_24, bl_24))) ((e_23, bl_23)))))) (cond (Nat.ble 11 y) (cond (Nat.ble 17 y) (cond (Nat.ble 20 y) (cond (Nat.ble 21 y) (cond (Nat.ble 22 y) ((e_22, bl_22)) ((e_21, bl_21))) ((e_20, bl_20))) (cond (Nat.ble 18 y) (cond (Nat.ble 19 y) ((e_19, bl_19)) ((e_18, bl_18))) ((e_17, bl_17)))) (cond (Nat.ble 14 y) (cond (Nat.ble 15 y) (cond (Nat.ble 16 y) ((e_16, bl_16)) ((e_15, bl_15))) ((e_14, bl_14))) (cond (Nat.ble 12 y) (cond (Nat.ble 13 y) ((e_13, bl_13)) ((e_12, bl_12))) ((e_11, bl_11))))) (cond (Nat.ble 5 y) (cond (Nat.ble 8 y) (cond (Nat.ble 9 y) (cond (Nat.ble 10 y) ((e_10, bl_10)) ((e_9, bl_9))) ((e_8, bl_8))) (cond (Nat.ble 6 y) (cond (Nat.ble 7 y) ((e_7, bl_7)) ((e_6, bl_6))) ((e_5, bl_5)))) (cond (Nat.ble 2 y) (cond (Nat.ble 3 y) (cond (Nat.ble 4 y) ((e_4, bl_4)) ((e_3, bl_3))) ((e_2, bl_2))) (cond (Nat.ble 1 y) ((e_1, bl_1)) ((e_0, bl_0)))))))))
theorem tr_split {y : Nat} {a b : MIt × List Bk} (m : Nat) (ha : m ≤ y → ∃ k, OKx k a ∧ (y < 383 → k = y)) (hb : y < m → ∃ k, OKx k b ∧ (y < 383 → k = y)) : ∃ k, OKx k (cond (Nat.ble m y) a b) ∧ (y < 383 → k = y) := by
  cases h : Nat.ble m y with
  | true => exact ha (Nat.le_of_ble_eq_true h)
  | false => exact hb (Nat.lt_of_not_le fun hm => by rw [Nat.ble_eq_true_of_le hm] at h; cases h)
set_option maxRecDepth 1000000 in
theorem TR_ok (y : Nat) : ∃ k, OKx k (TR y) ∧ (y < 383 → k = y) := tr_split 191 (fun h191 => tr_split 287 (fun h287 => tr_split 335 (fun h335 => tr_split 359 (fun h359 => tr_split 371 (fun h371 => tr_split 377 (fun h377 => tr_split 380 (fun h380 => tr_split 381 (fun h381 => tr_split 382 (fun h382 => ⟨382, lf_382, fun h => by omega⟩) (fun g382 => ⟨381, lf_381, fun h => by omega⟩)) (fun g381 => ⟨380, lf_380, fun h => by omega⟩)) (fun g380 => tr_split 378 (fun h378 => tr_split 379 (fun h379 => ⟨379, lf_379, fun h => by omega⟩) (fun g379 => ⟨378, lf_378, fun h => by omega⟩)) (fun g378 => ⟨377, lf_377, fun h => by omega⟩))) (fun g377 => tr_split 374 (fun h374 => tr_split 375 (fun h375 => tr_split 376 (fun h376 => ⟨376, lf_376, fun h => by omega⟩) (fun g376 => ⟨375, lf_375, fun h => by omega⟩)) (fun g375 => ⟨374, lf_374, fun h => by omega⟩)) (fun g374 => tr_split 372 (fun h372 => tr_split 373 (fun h373 => ⟨373, lf_373, fun h => by omega⟩) (fun g373 => ⟨372, lf_372, fun h => by omega⟩)) (fun g372 => ⟨371, lf_371, fun h => by omega⟩)))) (fun g371 => tr_split 365 (fun h365 => tr_split 368 (fun h368 => tr_split 369 (fun h369 => tr_split 370 (fun h370 => ⟨370, lf_370, fun h => by omega⟩) (fun g370 => ⟨369, lf_369, fun h => by omega⟩)) (fun g369 => ⟨368, lf_368, fun h => by omega⟩)) (fun g368 => tr_split 366 (fun h366 => tr_split 367 (fun h367 => ⟨367, lf_367, fun h => by omega⟩) (fun g367 => ⟨366, lf_366, fun h => by omega⟩)) (fun g366 => ⟨365, lf_365, fun h => by omega⟩))) (fun g365 => tr_split 362 (fun h362 => tr_split 363 (fun h363 => tr_split 364 (fun h364 => ⟨364, lf_364, fun h => by omega⟩) (fun g364 => ⟨363, lf_363, fun h => by omega⟩)) (fun g363 => ⟨362, lf_362, fun h => by omega⟩)) (fun g362 => tr_split 360 (fun h360 => tr_split 361 (fun h361 => ⟨361, lf_361, fun h => by omega⟩) (fun g361 => ⟨360, lf_360, fun h => by omega⟩)) (fun g360 => ⟨359, lf_359, fun h => by omega⟩))))) (fun g359 => tr_split 347 (fun h347 => tr_split 353 (fun h353 => tr_split 356 (fun h356 => tr_split 357 (fun h357 => tr_split 358 (fun h358 => ⟨358, lf_358, fun h => by omega⟩) (fun g358 => ⟨357, lf_357, fun h => by omega⟩)) (fun g357 => ⟨356, lf_356, fun h => by omega⟩)) (fun g356 => tr_split 354 (fun h354 => tr_split 355 (fun h355 => ⟨355, lf_355, fun h => by omega⟩) (fun g355 => ⟨354, lf_354, fun h => by omega⟩)) (fun g354 => ⟨353, lf_353, fun h => by omega⟩))) (fun g353 => tr_split 350 (fun h350 => tr_split 351 (fun h351 => tr_split 352 (fun h352 => ⟨352, lf_352, fun h => by omega⟩) (fun g352 => ⟨351, lf_351, fun h => by omega⟩)) (fun g351 => ⟨350, lf_350, fun h => by omega⟩)) (fun g350 => tr_split 348 (fun h348 => tr_split 349 (fun h349 => ⟨349, lf_349, fun h => by omega⟩) (fun g349 => ⟨348, lf_348, fun h => by omega⟩)) (fun g348 => ⟨347, lf_347, fun h => by omega⟩)))) (fun g347 => tr_split 341 (fun h341 => tr_split 344 (fun h344 => tr_split 345 (fun h345 => tr_split 346 (fun h346 => ⟨346, lf_346, fun h => by omega⟩) (fun g346 => ⟨345, lf_345, fun h => by omega⟩)) (fun g345 => ⟨344, lf_344, fun h => by omega⟩)) (fun g344 => tr_split 342 (fun h342 => tr_split 343 (fun h343 => ⟨343, lf_343, fun h => by omega⟩) (fun g343 => ⟨342, lf_342, fun h => by omega⟩)) (fun g342 => ⟨341, lf_341, fun h => by omega⟩))) (fun g341 => tr_split 338 (fun h338 => tr_split 339 (fun h339 => tr_split 340 (fun h340 => ⟨340, lf_340, fun h => by omega⟩) (fun g340 => ⟨339, lf_339, fun h => by omega⟩)) (fun g339 => ⟨338, lf_338, fun h => by omega⟩)) (fun g338 => tr_split 336 (fun h336 => tr_split 337 (fun h337 => ⟨337, lf_337, fun h => by omega⟩) (fun g337 => ⟨336, lf_336, fun h => by omega⟩)) (fun g336 => ⟨335, lf_335, fun h => by omega⟩)))))) (fun g335 => tr_split 311 (fun h311 => tr_split 323 (fun h323 => tr_split 329 (fun h329 => tr_split 332 (fun h332 => tr_split 333 (fun h333 => tr_split 334 (fun h334 => ⟨334, lf_334, fun h => by omega⟩) (fun g334 => ⟨333, lf_333, fun h => by omega⟩)) (fun g333 => ⟨332, lf_332, fun h => by omega⟩)) (fun g332 => tr_split 330 (fun h330 => tr_split 331 (fun h331 => ⟨331, lf_331, fun h => by omega⟩) (fun g331 => ⟨330, lf_330, fun h => by omega⟩)) (fun g330 => ⟨329, lf_329, fun h => by omega⟩))) (fun g329 => tr_split 326 (fun h326 => tr_split 327 (fun h327 => tr_split 328 (fun h328 => ⟨328, lf_328, fun h => by omega⟩) (fun g328 => ⟨327, lf_327, fun h => by omega⟩)) (fun g327 => ⟨326, lf_326, fun h => by omega⟩)) (fun g326 => tr_split 324 (fun h324 => tr_split 325 (fun h325 => ⟨325, lf_325, fun h => by omega⟩) (fun g325 => ⟨324, lf_324, fun h => by omega⟩)) (fun g324 => ⟨323, lf_323, fun h => by omega⟩)))) (fun g323 => tr_split 317 (fun h317 => tr_split 320 (fun h320 => tr_split 321 (fun h321 => tr_split 322 (fun h322 => ⟨322, lf_322, fun h => by omega⟩) (fun g322 => ⟨321, lf_321, fun h => by omega⟩)) (fun g321 => ⟨320, lf_320, fun h => by omega⟩)) (fun g320 => tr_split 318 (fun h318 => tr_split 319 (fun h319 => ⟨319, lf_319, fun h => by omega⟩) (fun g319 => ⟨318, lf_318, fun h => by omega⟩)) (fun g318 => ⟨317, lf_317, fun h => by omega⟩))) (fun g317 => tr_split 314 (fun h314 => tr_split 315 (fun h315 => tr_split 316 (fun h316 => ⟨316, lf_316, fun h => by omega⟩) (fun g316 => ⟨315, lf_315, fun h => by omega⟩)) (fun g315 => ⟨314, lf_314, fun h => by omega⟩)) (fun g314 => tr_split 312 (fun h312 => tr_split 313 (fun h313 => ⟨313, lf_313, fun h => by omega⟩) (fun g313 => ⟨312, lf_312, fun h => by omega⟩)) (fun g312 => ⟨311, lf_311, fun h => by omega⟩))))) (fun g311 => tr_split 299 (fun h299 => tr_split 305 (fun h305 => tr_split 308 (fun h308 => tr_split 309 (fun h309 => tr_split 310 (fun h310 => ⟨310, lf_310, fun h => by omega⟩) (fun g310 => ⟨309, lf_309, fun h => by omega⟩)) (fun g309 => ⟨308, lf_308, fun h => by omega⟩)) (fun g308 => tr_split 306 (fun h306 => tr_split 307 (fun h307 => ⟨307, lf_307, fun h => by omega⟩) (fun g307 => ⟨306, lf_306, fun h => by omega⟩)) (fun g306 => ⟨305, lf_305, fun h => by omega⟩))) (fun g305 => tr_split 302 (fun h302 => tr_split 303 (fun h303 => tr_split 304 (fun h304 => ⟨304, lf_304, fun h => by omega⟩) (fun g304 => ⟨303, lf_303, fun h => by omega⟩)) (fun g303 => ⟨302, lf_302, fun h => by omega⟩)) (fun g302 => tr_split 300 (fun h300 => tr_split 301 (fun h301 => ⟨301, lf_301, fun h => by omega⟩) (fun g301 => ⟨300, lf_300, fun h => by omega⟩)) (fun g300 => ⟨299, lf_299, fun h => by omega⟩)))) (fun g299 => tr_split 293 (fun h293 => tr_split 296 (fun h296 => tr_split 297 (fun h297 => tr_split 298 (fun h298 => ⟨298, lf_298, fun h => by omega⟩) (fun g298 => ⟨297, lf_297, fun h => by omega⟩)) (fun g297 => ⟨296, lf_296, fun h => by omega⟩)) (fun g296 => tr_split 294 (fun h294 => tr_split 295 (fun h295 => ⟨295, lf_295, fun h => by omega⟩) (fun g295 => ⟨294, lf_294, fun h => by omega⟩)) (fun g294 => ⟨293, lf_293, fun h => by omega⟩))) (fun g293 => tr_split 290 (fun h290 => tr_split 291 (fun h291 => tr_split 292 (fun h292 => ⟨292, lf_292, fun h => by omega⟩) (fun g292 => ⟨291, lf_291, fun h => by omega⟩)) (fun g291 => ⟨290, lf_290, fun h => by omega⟩)) (fun g290 => tr_split 288 (fun h288 => tr_split 289 (fun h289 => ⟨289, lf_289, fun h => by omega⟩) (fun g289 => ⟨288, lf_288, fun h => by omega⟩)) (fun g288 => ⟨287, lf_287, fun h => by omega⟩))))))) (fun g287 => tr_split 239 (fun h239 => tr_split 263 (fun h263 => tr_split 275 (fun h275 => tr_split 281 (fun h281 => tr_split 284 (fun h284 => tr_split 285 (fun h285 => tr_split 286 (fun h286 => ⟨286, lf_286, fun h => by omega⟩) (fun g286 => ⟨285, lf_285, fun h => by omega⟩)) (fun g285 => ⟨284, lf_284, fun h => by omega⟩)) (fun g284 => tr_split 282 (fun h282 => tr_split 283 (fun h283 => ⟨283, lf_283, fun h => by omega⟩) (fun g283 => ⟨282, lf_282, fun h => by omega⟩)) (fun g282 => ⟨281, lf_281, fun h => by omega⟩))) (fun g281 => tr_split 278 (fun h278 => tr_split 279 (fun h279 => tr_split 280 (fun h280 => ⟨280, lf_280, fun h => by omega⟩) (fun g280 => ⟨279, lf_279, fun h => by omega⟩)) (fun g279 => ⟨278, lf_278, fun h => by omega⟩)) (fun g278 => tr_split 276 (fun h276 => tr_split 277 (fun h277 => ⟨277, lf_277, fun h => by omega⟩) (fun g277 => ⟨276, lf_276, fun h => by omega⟩)) (fun g276 => ⟨275, lf_275, fun h => by omega⟩)))) (fun g275 => tr_split 269 (fun h269 => tr_split 272 (fun h272 => tr_split 273 (fun h273 => tr_split 274 (fun h274 => ⟨274, lf_274, fun h => by omega⟩) (fun g274 => ⟨273, lf_273, fun h => by omega⟩)) (fun g273 => ⟨272, lf_272, fun h => by omega⟩)) (fun g272 => tr_split 270 (fun h270 => tr_split 271 (fun h271 => ⟨271, lf_271, fun h => by omega⟩) (fun g271 => ⟨270, lf_270, fun h => by omega⟩)) (fun g270 => ⟨269, lf_269, fun h => by omega⟩))) (fun g269 => tr_split 266 (fun h266 => tr_split 267 (fun h267 => tr_split 268 (fun h268 => ⟨268, lf_268, fun h => by omega⟩) (fun g268 => ⟨267, lf_267, fun h => by omega⟩)) (fun g267 => ⟨266, lf_266, fun h => by omega⟩)) (fun g266 => tr_split 264 (fun h264 => tr_split 265 (fun h265 => ⟨265, lf_265, fun h => by omega⟩) (fun g265 => ⟨264, lf_264, fun h => by omega⟩)) (fun g264 => ⟨263, lf_263, fun h => by omega⟩))))) (fun g263 => tr_split 251 (fun h251 => tr_split 257 (fun h257 => tr_split 260 (fun h260 => tr_split 261 (fun h261 => tr_split 262 (fun h262 => ⟨262, lf_262, fun h => by omega⟩) (fun g262 => ⟨261, lf_261, fun h => by omega⟩)) (fun g261 => ⟨260, lf_260, fun h => by omega⟩)) (fun g260 => tr_split 258 (fun h258 => tr_split 259 (fun h259 => ⟨259, lf_259, fun h => by omega⟩) (fun g259 => ⟨258, lf_258, fun h => by omega⟩)) (fun g258 => ⟨257, lf_257, fun h => by omega⟩))) (fun g257 => tr_split 254 (fun h254 => tr_split 255 (fun h255 => tr_split 256 (fun h256 => ⟨256, lf_256, fun h => by omega⟩) (fun g256 => ⟨255, lf_255, fun h => by omega⟩)) (fun g255 => ⟨254, lf_254, fun h => by omega⟩)) (fun g254 => tr_split 252 (fun h252 => tr_split 253 (fun h253 => ⟨253, lf_253, fun h => by omega⟩) (fun g253 => ⟨252, lf_252, fun h => by omega⟩)) (fun g252 => ⟨251, lf_251, fun h => by omega⟩)))) (fun g251 => tr_split 245 (fun h245 => tr_split 248 (fun h248 => tr_split 249 (fun h249 => tr_split 250 (fun h250 => ⟨250, lf_250, fun h => by omega⟩) (fun g250 => ⟨249, lf_249, fun h => by omega⟩)) (fun g249 => ⟨248, lf_248, fun h => by omega⟩)) (fun g248 => tr_split 246 (fun h246 => tr_split 247 (fun h247 => ⟨247, lf_247, fun h => by omega⟩) (fun g247 => ⟨246, lf_246, fun h => by omega⟩)) (fun g246 => ⟨245, lf_245, fun h => by omega⟩))) (fun g245 => tr_split 242 (fun h242 => tr_split 243 (fun h243 => tr_split 244 (fun h244 => ⟨244, lf_244, fun h => by omega⟩) (fun g244 => ⟨243, lf_243, fun h => by omega⟩)) (fun g243 => ⟨242, lf_242, fun h => by omega⟩)) (fun g242 => tr_split 240 (fun h240 => tr_split 241 (fun h241 => ⟨241, lf_241, fun h => by omega⟩) (fun g241 => ⟨240, lf_240, fun h => by omega⟩)) (fun g240 => ⟨239, lf_239, fun h => by omega⟩)))))) (fun g239 => tr_split 215 (fun h215 => tr_split 227 (fun h227 => tr_split 233 (fun h233 => tr_split 236 (fun h236 => tr_split 237 (fun h237 => tr_split 238 (fun h238 => ⟨238, lf_238, fun h => by omega⟩) (fun g238 => ⟨237, lf_237, fun h => by omega⟩)) (fun g237 => ⟨236, lf_236, fun h => by omega⟩)) (fun g236 => tr_split 234 (fun h234 => tr_split 235 (fun h235 => ⟨235, lf_235, fun h => by omega⟩) (fun g235 => ⟨234, lf_234, fun h => by omega⟩)) (fun g234 => ⟨233, lf_233, fun h => by omega⟩))) (fun g233 => tr_split 230 (fun h230 => tr_split 231 (fun h231 => tr_split 232 (fun h232 => ⟨232, lf_232, fun h => by omega⟩) (fun g232 => ⟨231, lf_231, fun h => by omega⟩)) (fun g231 => ⟨230, lf_230, fun h => by omega⟩)) (fun g230 => tr_split 228 (fun h228 => tr_split 229 (fun h229 => ⟨229, lf_229, fun h => by omega⟩) (fun g229 => ⟨228, lf_228, fun h => by omega⟩)) (fun g228 => ⟨227, lf_227, fun h => by omega⟩)))) (fun g227 => tr_split 221 (fun h221 => tr_split 224 (fun h224 => tr_split 225 (fun h225 => tr_split 226 (fun h226 => ⟨226, lf_226, fun h => by omega⟩) (fun g226 => ⟨225, lf_225, fun h => by omega⟩)) (fun g225 => ⟨224, lf_224, fun h => by omega⟩)) (fun g224 => tr_split 222 (fun h222 => tr_split 223 (fun h223 => ⟨223, lf_223, fun h => by omega⟩) (fun g223 => ⟨222, lf_222, fun h => by omega⟩)) (fun g222 => ⟨221, lf_221, fun h => by omega⟩))) (fun g221 => tr_split 218 (fun h218 => tr_split 219 (fun h219 => tr_split 220 (fun h220 => ⟨220, lf_220, fun h => by omega⟩) (fun g220 => ⟨219, lf_219, fun h => by omega⟩)) (fun g219 => ⟨218, lf_218, fun h => by omega⟩)) (fun g218 => tr_split 216 (fun h216 => tr_split 217 (fun h217 => ⟨217, lf_217, fun h => by omega⟩) (fun g217 => ⟨216, lf_216, fun h => by omega⟩)) (fun g216 => ⟨215, lf_215, fun h => by omega⟩))))) (fun g215 => tr_split 203 (fun h203 => tr_split 209 (fun h209 => tr_split 212 (fun h212 => tr_split 213 (fun h213 => tr_split 214 (fun h214 => ⟨214, lf_214, fun h => by omega⟩) (fun g214 => ⟨213, lf_213, fun h => by omega⟩)) (fun g213 => ⟨212, lf_212, fun h => by omega⟩)) (fun g212 => tr_split 210 (fun h210 => tr_split 211 (fun h211 => ⟨211, lf_211, fun h => by omega⟩) (fun g211 => ⟨210, lf_210, fun h => by omega⟩)) (fun g210 => ⟨209, lf_209, fun h => by omega⟩))) (fun g209 => tr_split 206 (fun h206 => tr_split 207 (fun h207 => tr_split 208 (fun h208 => ⟨208, lf_208, fun h => by omega⟩) (fun g208 => ⟨207, lf_207, fun h => by omega⟩)) (fun g207 => ⟨206, lf_206, fun h => by omega⟩)) (fun g206 => tr_split 204 (fun h204 => tr_split 205 (fun h205 => ⟨205, lf_205, fun h => by omega⟩) (fun g205 => ⟨204, lf_204, fun h => by omega⟩)) (fun g204 => ⟨203, lf_203, fun h => by omega⟩)))) (fun g203 => tr_split 197 (fun h197 => tr_split 200 (fun h200 => tr_split 201 (fun h201 => tr_split 202 (fun h202 => ⟨202, lf_202, fun h => by omega⟩) (fun g202 => ⟨201, lf_201, fun h => by omega⟩)) (fun g201 => ⟨200, lf_200, fun h => by omega⟩)) (fun g200 => tr_split 198 (fun h198 => tr_split 199 (fun h199 => ⟨199, lf_199, fun h => by omega⟩) (fun g199 => ⟨198, lf_198, fun h => by omega⟩)) (fun g198 => ⟨197, lf_197, fun h => by omega⟩))) (fun g197 => tr_split 194 (fun h194 => tr_split 195 (fun h195 => tr_split 196 (fun h196 => ⟨196, lf_196, fun h => by omega⟩) (fun g196 => ⟨195, lf_195, fun h => by omega⟩)) (fun g195 => ⟨194, lf_194, fun h => by omega⟩)) (fun g194 => tr_split 192 (fun h192 => tr_split 193 (fun h193 => ⟨193, lf_193, fun h => by omega⟩) (fun g193 => ⟨192, lf_192, fun h => by omega⟩)) (fun g192 => ⟨191, lf_191, fun h => by omega⟩)))))))) (fun g191 => tr_split 95 (fun h95 => tr_split 143 (fun h143 => tr_split 167 (fun h167 => tr_split 179 (fun h179 => tr_split 185 (fun h185 => tr_split 188 (fun h188 => tr_split 189 (fun h189 => tr_split 190 (fun h190 => ⟨190, lf_190, fun h => by omega⟩) (fun g190 => ⟨189, lf_189, fun h => by omega⟩)) (fun g189 => ⟨188, lf_188, fun h => by omega⟩)) (fun g188 => tr_split 186 (fun h186 => tr_split 187 (fun h187 => ⟨187, lf_187, fun h => by omega⟩) (fun g187 => ⟨186, lf_186, fun h => by omega⟩)) (fun g186 => ⟨185, lf_185, fun h => by omega⟩))) (fun g185 => tr_split 182 (fun h182 => tr_split 183 (fun h183 => tr_split 184 (fun h184 => ⟨184, lf_184, fun h => by omega⟩) (fun g184 => ⟨183, lf_183, fun h => by omega⟩)) (fun g183 => ⟨182, lf_182, fun h => by omega⟩)) (fun g182 => tr_split 180 (fun h180 => tr_split 181 (fun h181 => ⟨181, lf_181, fun h => by omega⟩) (fun g181 => ⟨180, lf_180, fun h => by omega⟩)) (fun g180 => ⟨179, lf_179, fun h => by omega⟩)))) (fun g179 => tr_split 173 (fun h173 => tr_split 176 (fun h176 => tr_split 177 (fun h177 => tr_split 178 (fun h178 => ⟨178, lf_178, fun h => by omega⟩) (fun g178 => ⟨177, lf_177, fun h => by omega⟩)) (fun g177 => ⟨176, lf_176, fun h => by omega⟩)) (fun g176 => tr_split 174 (fun h174 => tr_split 175 (fun h175 => ⟨175, lf_175, fun h => by omega⟩) (fun g175 => ⟨174, lf_174, fun h => by omega⟩)) (fun g174 => ⟨173, lf_173, fun h => by omega⟩))) (fun g173 => tr_split 170 (fun h170 => tr_split 171 (fun h171 => tr_split 172 (fun h172 => ⟨172, lf_172, fun h => by omega⟩) (fun g172 => ⟨171, lf_171, fun h => by omega⟩)) (fun g171 => ⟨170, lf_170, fun h => by omega⟩)) (fun g170 => tr_split 168 (fun h168 => tr_split 169 (fun h169 => ⟨169, lf_169, fun h => by omega⟩) (fun g169 => ⟨168, lf_168, fun h => by omega⟩)) (fun g168 => ⟨167, lf_167, fun h => by omega⟩))))) (fun g167 => tr_split 155 (fun h155 => tr_split 161 (fun h161 => tr_split 164 (fun h164 => tr_split 165 (fun h165 => tr_split 166 (fun h166 => ⟨166, lf_166, fun h => by omega⟩) (fun g166 => ⟨165, lf_165, fun h => by omega⟩)) (fun g165 => ⟨164, lf_164, fun h => by omega⟩)) (fun g164 => tr_split 162 (fun h162 => tr_split 163 (fun h163 => ⟨163, lf_163, fun h => by omega⟩) (fun g163 => ⟨162, lf_162, fun h => by omega⟩)) (fun g162 => ⟨161, lf_161, fun h => by omega⟩))) (fun g161 => tr_split 158 (fun h158 => tr_split 159 (fun h159 => tr_split 160 (fun h160 => ⟨160, lf_160, fun h => by omega⟩) (fun g160 => ⟨159, lf_159, fun h => by omega⟩)) (fun g159 => ⟨158, lf_158, fun h => by omega⟩)) (fun g158 => tr_split 156 (fun h156 => tr_split 157 (fun h157 => ⟨157, lf_157, fun h => by omega⟩) (fun g157 => ⟨156, lf_156, fun h => by omega⟩)) (fun g156 => ⟨155, lf_155, fun h => by omega⟩)))) (fun g155 => tr_split 149 (fun h149 => tr_split 152 (fun h152 => tr_split 153 (fun h153 => tr_split 154 (fun h154 => ⟨154, lf_154, fun h => by omega⟩) (fun g154 => ⟨153, lf_153, fun h => by omega⟩)) (fun g153 => ⟨152, lf_152, fun h => by omega⟩)) (fun g152 => tr_split 150 (fun h150 => tr_split 151 (fun h151 => ⟨151, lf_151, fun h => by omega⟩) (fun g151 => ⟨150, lf_150, fun h => by omega⟩)) (fun g150 => ⟨149, lf_149, fun h => by omega⟩))) (fun g149 => tr_split 146 (fun h146 => tr_split 147 (fun h147 => tr_split 148 (fun h148 => ⟨148, lf_148, fun h => by omega⟩) (fun g148 => ⟨147, lf_147, fun h => by omega⟩)) (fun g147 => ⟨146, lf_146, fun h => by omega⟩)) (fun g146 => tr_split 144 (fun h144 => tr_split 145 (fun h145 => ⟨145, lf_145, fun h => by omega⟩) (fun g145 => ⟨144, lf_144, fun h => by omega⟩)) (fun g144 => ⟨143, lf_143, fun h => by omega⟩)))))) (fun g143 => tr_split 119 (fun h119 => tr_split 131 (fun h131 => tr_split 137 (fun h137 => tr_split 140 (fun h140 => tr_split 141 (fun h141 => tr_split 142 (fun h142 => ⟨142, lf_142, fun h => by omega⟩) (fun g142 => ⟨141, lf_141, fun h => by omega⟩)) (fun g141 => ⟨140, lf_140, fun h => by omega⟩)) (fun g140 => tr_split 138 (fun h138 => tr_split 139 (fun h139 => ⟨139, lf_139, fun h => by omega⟩) (fun g139 => ⟨138, lf_138, fun h => by omega⟩)) (fun g138 => ⟨137, lf_137, fun h => by omega⟩))) (fun g137 => tr_split 134 (fun h134 => tr_split 135 (fun h135 => tr_split 136 (fun h136 => ⟨136, lf_136, fun h => by omega⟩) (fun g136 => ⟨135, lf_135, fun h => by omega⟩)) (fun g135 => ⟨134, lf_134, fun h => by omega⟩)) (fun g134 => tr_split 132 (fun h132 => tr_split 133 (fun h133 => ⟨133, lf_133, fun h => by omega⟩) (fun g133 => ⟨132, lf_132, fun h => by omega⟩)) (fun g132 => ⟨131, lf_131, fun h => by omega⟩)))) (fun g131 => tr_split 125 (fun h125 => tr_split 128 (fun h128 => tr_split 129 (fun h129 => tr_split 130 (fun h130 => ⟨130, lf_130, fun h => by omega⟩) (fun g130 => ⟨129, lf_129, fun h => by omega⟩)) (fun g129 => ⟨128, lf_128, fun h => by omega⟩)) (fun g128 => tr_split 126 (fun h126 => tr_split 127 (fun h127 => ⟨127, lf_127, fun h => by omega⟩) (fun g127 => ⟨126, lf_126, fun h => by omega⟩)) (fun g126 => ⟨125, lf_125, fun h => by omega⟩))) (fun g125 => tr_split 122 (fun h122 => tr_split 123 (fun h123 => tr_split 124 (fun h124 => ⟨124, lf_124, fun h => by omega⟩) (fun g124 => ⟨123, lf_123, fun h => by omega⟩)) (fun g123 => ⟨122, lf_122, fun h => by omega⟩)) (fun g122 => tr_split 120 (fun h120 => tr_split 121 (fun h121 => ⟨121, lf_121, fun h => by omega⟩) (fun g121 => ⟨120, lf_120, fun h => by omega⟩)) (fun g120 => ⟨119, lf_119, fun h => by omega⟩))))) (fun g119 => tr_split 107 (fun h107 => tr_split 113 (fun h113 => tr_split 116 (fun h116 => tr_split 117 (fun h117 => tr_split 118 (fun h118 => ⟨118, lf_118, fun h => by omega⟩) (fun g118 => ⟨117, lf_117, fun h => by omega⟩)) (fun g117 => ⟨116, lf_116, fun h => by omega⟩)) (fun g116 => tr_split 114 (fun h114 => tr_split 115 (fun h115 => ⟨115, lf_115, fun h => by omega⟩) (fun g115 => ⟨114, lf_114, fun h => by omega⟩)) (fun g114 => ⟨113, lf_113, fun h => by omega⟩))) (fun g113 => tr_split 110 (fun h110 => tr_split 111 (fun h111 => tr_split 112 (fun h112 => ⟨112, lf_112, fun h => by omega⟩) (fun g112 => ⟨111, lf_111, fun h => by omega⟩)) (fun g111 => ⟨110, lf_110, fun h => by omega⟩)) (fun g110 => tr_split 108 (fun h108 => tr_split 109 (fun h109 => ⟨109, lf_109, fun h => by omega⟩) (fun g109 => ⟨108, lf_108, fun h => by omega⟩)) (fun g108 => ⟨107, lf_107, fun h => by omega⟩)))) (fun g107 => tr_split 101 (fun h101 => tr_split 104 (fun h104 => tr_split 105 (fun h105 => tr_split 106 (fun h106 => ⟨106, lf_106, fun h => by omega⟩) (fun g106 => ⟨105, lf_105, fun h => by omega⟩)) (fun g105 => ⟨104, lf_104, fun h => by omega⟩)) (fun g104 => tr_split 102 (fun h102 => tr_split 103 (fun h103 => ⟨103, lf_103, fun h => by omega⟩) (fun g103 => ⟨102, lf_102, fun h => by omega⟩)) (fun g102 => ⟨101, lf_101, fun h => by omega⟩))) (fun g101 => tr_split 98 (fun h98 => tr_split 99 (fun h99 => tr_split 100 (fun h100 => ⟨100, lf_100, fun h => by omega⟩) (fun g100 => ⟨99, lf_99, fun h => by omega⟩)) (fun g99 => ⟨98, lf_98, fun h => by omega⟩)) (fun g98 => tr_split 96 (fun h96 => tr_split 97 (fun h97 => ⟨97, lf_97, fun h => by omega⟩) (fun g97 => ⟨96, lf_96, fun h => by omega⟩)) (fun g96 => ⟨95, lf_95, fun h => by omega⟩))))))) (fun g95 => tr_split 47 (fun h47 => tr_split 71 (fun h71 => tr_split 83 (fun h83 => tr_split 89 (fun h89 => tr_split 92 (fun h92 => tr_split 93 (fun h93 => tr_split 94 (fun h94 => ⟨94, lf_94, fun h => by omega⟩) (fun g94 => ⟨93, lf_93, fun h => by omega⟩)) (fun g93 => ⟨92, lf_92, fun h => by omega⟩)) (fun g92 => tr_split 90 (fun h90 => tr_split 91 (fun h91 => ⟨91, lf_91, fun h => by omega⟩) (fun g91 => ⟨90, lf_90, fun h => by omega⟩)) (fun g90 => ⟨89, lf_89, fun h => by omega⟩))) (fun g89 => tr_split 86 (fun h86 => tr_split 87 (fun h87 => tr_split 88 (fun h88 => ⟨88, lf_88, fun h => by omega⟩) (fun g88 => ⟨87, lf_87, fun h => by omega⟩)) (fun g87 => ⟨86, lf_86, fun h => by omega⟩)) (fun g86 => tr_split 84 (fun h84 => tr_split 85 (fun h85 => ⟨85, lf_85, fun h => by omega⟩) (fun g85 => ⟨84, lf_84, fun h => by omega⟩)) (fun g84 => ⟨83, lf_83, fun h => by omega⟩)))) (fun g83 => tr_split 77 (fun h77 => tr_split 80 (fun h80 => tr_split 81 (fun h81 => tr_split 82 (fun h82 => ⟨82, lf_82, fun h => by omega⟩) (fun g82 => ⟨81, lf_81, fun h => by omega⟩)) (fun g81 => ⟨80, lf_80, fun h => by omega⟩)) (fun g80 => tr_split 78 (fun h78 => tr_split 79 (fun h79 => ⟨79, lf_79, fun h => by omega⟩) (fun g79 => ⟨78, lf_78, fun h => by omega⟩)) (fun g78 => ⟨77, lf_77, fun h => by omega⟩))) (fun g77 => tr_split 74 (fun h74 => tr_split 75 (fun h75 => tr_split 76 (fun h76 => ⟨76, lf_76, fun h => by omega⟩) (fun g76 => ⟨75, lf_75, fun h => by omega⟩)) (fun g75 => ⟨74, lf_74, fun h => by omega⟩)) (fun g74 => tr_split 72 (fun h72 => tr_split 73 (fun h73 => ⟨73, lf_73, fun h => by omega⟩) (fun g73 => ⟨72, lf_72, fun h => by omega⟩)) (fun g72 => ⟨71, lf_71, fun h => by omega⟩))))) (fun g71 => tr_split 59 (fun h59 => tr_split 65 (fun h65 => tr_split 68 (fun h68 => tr_split 69 (fun h69 => tr_split 70 (fun h70 => ⟨70, lf_70, fun h => by omega⟩) (fun g70 => ⟨69, lf_69, fun h => by omega⟩)) (fun g69 => ⟨68, lf_68, fun h => by omega⟩)) (fun g68 => tr_split 66 (fun h66 => tr_split 67 (fun h67 => ⟨67, lf_67, fun h => by omega⟩) (fun g67 => ⟨66, lf_66, fun h => by omega⟩)) (fun g66 => ⟨65, lf_65, fun h => by omega⟩))) (fun g65 => tr_split 62 (fun h62 => tr_split 63 (fun h63 => tr_split 64 (fun h64 => ⟨64, lf_64, fun h => by omega⟩) (fun g64 => ⟨63, lf_63, fun h => by omega⟩)) (fun g63 => ⟨62, lf_62, fun h => by omega⟩)) (fun g62 => tr_split 60 (fun h60 => tr_split 61 (fun h61 => ⟨61, lf_61, fun h => by omega⟩) (fun g61 => ⟨60, lf_60, fun h => by omega⟩)) (fun g60 => ⟨59, lf_59, fun h => by omega⟩)))) (fun g59 => tr_split 53 (fun h53 => tr_split 56 (fun h56 => tr_split 57 (fun h57 => tr_split 58 (fun h58 => ⟨58, lf_58, fun h => by omega⟩) (fun g58 => ⟨57, lf_57, fun h => by omega⟩)) (fun g57 => ⟨56, lf_56, fun h => by omega⟩)) (fun g56 => tr_split 54 (fun h54 => tr_split 55 (fun h55 => ⟨55, lf_55, fun h => by omega⟩) (fun g55 => ⟨54, lf_54, fun h => by omega⟩)) (fun g54 => ⟨53, lf_53, fun h => by omega⟩))) (fun g53 => tr_split 50 (fun h50 => tr_split 51 (fun h51 => tr_split 52 (fun h52 => ⟨52, lf_52, fun h => by omega⟩) (fun g52 => ⟨51, lf_51, fun h => by omega⟩)) (fun g51 => ⟨50, lf_50, fun h => by omega⟩)) (fun g50 => tr_split 48 (fun h48 => tr_split 49 (fun h49 => ⟨49, lf_49, fun h => by omega⟩) (fun g49 => ⟨48, lf_48, fun h => by omega⟩)) (fun g48 => ⟨47, lf_47, fun h => by omega⟩)))))) (fun g47 => tr_split 23 (fun h23 => tr_split 35 (fun h35 => tr_split 41 (fun h41 => tr_split 44 (fun h44 => tr_split 45 (fun h45 => tr_split 46 (fun h46 => ⟨46, lf_46, fun h => by omega⟩) (fun g46 => ⟨45, lf_45, fun h => by omega⟩)) (fun g45 => ⟨44, lf_44, fun h => by omega⟩)) (fun g44 => tr_split 42 (fun h42 => tr_split 43 (fun h43 => ⟨43, lf_43, fun h => by omega⟩) (fun g43 => ⟨42, lf_42, fun h => by omega⟩)) (fun g42 => ⟨41, lf_41, fun h => by omega⟩))) (fun g41 => tr_split 38 (fun h38 => tr_split 39 (fun h39 => tr_split 40 (fun h40 => ⟨40, lf_40, fun h => by omega⟩) (fun g40 => ⟨39, lf_39, fun h => by omega⟩)) (fun g39 => ⟨38, lf_38, fun h => by omega⟩)) (fun g38 => tr_split 36 (fun h36 => tr_split 37 (fun h37 => ⟨37, lf_37, fun h => by omega⟩) (fun g37 => ⟨36, lf_36, fun h => by omega⟩)) (fun g36 => ⟨35, lf_35, fun h => by omega⟩)))) (fun g35 => tr_split 29 (fun h29 => tr_split 32 (fun h32 => tr_split 33 (fun h33 => tr_split 34 (fun h34 => ⟨34, lf_34, fun h => by omega⟩) (fun g34 => ⟨33, lf_33, fun h => by omega⟩)) (fun g33 => ⟨32, lf_32, fun h => by omega⟩)) (fun g32 => tr_split 30 (fun h30 => tr_split 31 (fun h31 => ⟨31, lf_31, fun h => by omega⟩) (fun g31 => ⟨30, lf_30, fun h => by omega⟩)) (fun g30 => ⟨29, lf_29, fun h => by omega⟩))) (fun g29 => tr_split 26 (fun h26 => tr_split 27 (fun h27 => tr_split 28 (fun h28 => ⟨28, lf_28, fun h => by omega⟩) (fun g28 => ⟨27, lf_27, fun h => by omega⟩)) (fun g27 => ⟨26, lf_26, fun h => by omega⟩)) (fun g26 => tr_split 24 (fun h24 => tr_split 25 (fun h25 => ⟨25, lf_25, fun h => by omega⟩) (fun g25 => ⟨24, lf_24, fun h => by omega⟩)) (fun g24 => ⟨23, lf_23, fun h => by omega⟩))))) (fun g23 => tr_split 11 (fun h11 => tr_split 17 (fun h17 => tr_split 20 (fun h20 => tr_split 21 (fun h21 => tr_split 22 (fun h22 => ⟨22, lf_22, fun h => by omega⟩) (fun g22 => ⟨21, lf_21, fun h => by omega⟩)) (fun g21 => ⟨20, lf_20, fun h => by omega⟩)) (fun g20 => tr_split 18 (fun h18 => tr_split 19 (fun h19 => ⟨19, lf_19, fun h => by omega⟩) (fun g19 => ⟨18, lf_18, fun h => by omega⟩)) (fun g18 => ⟨17, lf_17, fun h => by omega⟩))) (fun g17 => tr_split 14 (fun h14 => tr_split 15 (fun h15 => tr_split 16 (fun h16 => ⟨16, lf_16, fun h => by omega⟩) (fun g16 => ⟨15, lf_15, fun h => by omega⟩)) (fun g15 => ⟨14, lf_14, fun h => by omega⟩)) (fun g14 => tr_split 12 (fun h12 => tr_split 13 (fun h13 => ⟨13, lf_13, fun h => by omega⟩) (fun g13 => ⟨12, lf_12, fun h => by omega⟩)) (fun g12 => ⟨11, lf_11, fun h => by omega⟩)))) (fun g11 => tr_split 5 (fun h5 => tr_split 8 (fun h8 => tr_split 9 (fun h9 => tr_split 10 (fun h10 => ⟨10, lf_10, fun h => by omega⟩) (fun g10 => ⟨9, lf_9, fun h => by omega⟩)) (fun g9 => ⟨8, lf_8, fun h => by omega⟩)) (fun g8 => tr_split 6 (fun h6 => tr_split 7 (fun h7 => ⟨7, lf_7, fun h => by omega⟩) (fun g7 => ⟨6, lf_6, fun h => by omega⟩)) (fun g6 => ⟨5, lf_5, fun h => by omega⟩))) (fun g5 => tr_split 2 (fun h2 => tr_split 3 (fun h3 => tr_split 4 (fun h4 => ⟨4, lf_4, fun h => by omega⟩) (fun g4 => ⟨3, lf_3, fun h => by omega⟩)) (fun g3 => ⟨2, lf_2, fun h => by omega⟩)) (fun g2 => tr_split 1 (fun h1 => ⟨1, lf_1, fun h => by omega⟩) (fun g1 => ⟨0, lf_0, fun h => by omega⟩))))))))
def PG : Pg := (fun y pc => blF (TR y).2 pc, fun y => (TR y).1.ret, fun y => hdOf y, fun y => (TR y).1.maxL)
theorem blF_cs {bl : List Bk} {pc : Nat} : (∃ b ∈ bl, b.1 = pc ∧ blF bl pc = b.2) ∨ blF bl pc = ([], 99999) := by
  unfold blF
  cases h : bl.find? (fun b => Nat.beq b.1 pc) with
  | none => exact Or.inr rfl
  | some b => exact Or.inl ⟨b, List.mem_of_find?_eq_some h, Nat.eq_of_beq_eq_true (List.find?_some (p := fun b : Bk => Nat.beq b.1 pc) h), rfl⟩
theorem blC_of {y : Nat} {bl : List Bk} (h : blC y bl = true) {b : Bk} (hb : b ∈ bl) : rowsC y b.1 b.2.1 = true ∧ (∀ r ∈ b.2.1, annV r) ∧ b.1 ≠ 99999 := by
  have := List.all_eq_true.mp h b hb
  obtain ⟨h12, h3⟩ := Bool.and_eq_true_iff.mp this
  obtain ⟨h1, h2⟩ := Bool.and_eq_true_iff.mp h12
  refine ⟨h1, fun r hr => annZ_ok (List.all_eq_true.mp h2 r hr), fun e => ?_⟩
  rw [e] at h3
  exact absurd h3 (by decide)
theorem PG_ann : annP PG := by
  intro y pc r hr
  obtain ⟨k, ⟨_, _, hc⟩, _⟩ := TR_ok y
  rcases blF_cs (bl := (TR y).2) (pc := pc) with ⟨b, hb, _, e⟩ | e
  · have hr2 : r ∈ (blF (TR y).2 pc).1 := hr
    rw [e] at hr2
    exact (blC_of hc hb).2.1 r hr2
  · have hr2 : r ∈ (blF (TR y).2 pc).1 := hr
    rw [e] at hr2
    cases hr2
set_option maxRecDepth 1000000 in
theorem MI_len : MI.length = 383 := rfl
theorem PG_ok : okP PG := by
  refine ⟨?_, ?_, ?_⟩
  · intro y q hq
    have hy : y < 383 := by rw [← MI_len]; exact (List.getElem?_eq_some_iff.mp hq).1
    obtain ⟨k, ⟨hk, _, _⟩, he⟩ := TR_ok y
    rw [he hy, hq] at hk
    obtain rfl := Option.some.inj hk
    exact ⟨rfl, rfl, rfl⟩
  · intro y
    obtain ⟨k, ⟨_, _, hc⟩, _⟩ := TR_ok y
    rcases blF_cs (bl := (TR y).2) (pc := 99999) with ⟨b, hb, e, _⟩ | e
    · exact absurd e (blC_of hc hb).2.2
    · exact e
  · intro y q pc hq
    have hy : y < 383 := by rw [← MI_len]; exact (List.getElem?_eq_some_iff.mp hq).1
    obtain ⟨k, ⟨hk, hr, hc⟩, he⟩ := TR_ok y
    rw [he hy] at hk hc
    rw [hq] at hk
    have hk2 := Option.some.inj hk
    show rowsB q pc (blF (TR y).2 pc).1 (blF (TR y).2 pc).2 = true ∧ rowsC y pc (blF (TR y).2 pc).1 = true
    rcases blF_cs (bl := (TR y).2) (pc := pc) with ⟨b, hb, rfl, e⟩ | e
    · rw [e, hk2]
      exact ⟨List.all_eq_true.mp hr b hb, (blC_of hc hb).1⟩
    · rw [e]
      exact ⟨by unfold rowsB; simp, rfl⟩
