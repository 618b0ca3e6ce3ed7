-- ===== parseText =====
section PAS
variable {h : Mm} {tk pr d c n : Nat} {T : Nat → Nat} {F P P' : Nat → Int32} {D R : Nat → Nat → Int32} {t : Tok}
def clD (D : Nat → Nat → Int32) : Nat → Nat → Int32 := zu2 (zu2 (zu2 (zu2 (zu2 (zu2 (zu2 D 0 3 0) 0 4 0) 0 5 0) 0 6 0) 0 7 0) 0 8 0) 0 11 0
theorem R_324 : PG.2.1 324 = none := rfl
theorem p_324 (O : PO h tk pr d c) : dM PG 324 [.ref d] (h.cp tk pr d c F P D R) = some (.inl none, h.cp tk pr d c F P (clD D) R) := by
  have J := O.1
  have U : SU h d := O.2.2.2.2.2.2.2.2.1
  rw [dM_of (Nat.le_of_ble_eq_true rfl)]
  simp -implicitDefEqProofs only [D_324_0, k_324_0, R_324, v_aload_n, g_iconst, g_put_i, g_return, entL, getL, setL, kL_i, kL_r, isI_s, isR_s, isJ_s, gV_s, iV_i, cs0, cs1, cs2, cs3, cs4, dn_nil, kd_si, kd_sl, kd_sw, mr_si, mr_sl, mr_sw, ml_si, ml_sw, mi_sl, cp_k, su_k U, cs_0 J]
  rfl
theorem R_347 : PG.2.1 347 = none := rfl
theorem p_347 (O : PO h tk pr d c) : dM PG 347 [.ref (c + 7)] (h.cp tk pr d c F P D R) = some (.inl none, h.cp tk pr d c F P D (zu2 (zu2 R 7 0 0) 7 1 0)) := by
  have J := O.1
  have Sc : ST h c := O.2.2.2.2.2.2.2.2.2.1
  rw [dM_of (Nat.le_of_ble_eq_true rfl)]
  simp -implicitDefEqProofs only [D_347_0, k_347_0, R_347, v_aload_n, g_iconst, g_put_i, g_return, entL, getL, setL, kL_i, kL_r, isI_s, isR_s, isJ_s, gV_s, iV_i, cs0, cs1, cs2, cs3, cs4, dn_nil, kd_si, kd_sl, kd_sw, mr_si, mr_sl, mr_sw, ml_si, ml_sw, mi_sl, cp_k, st_ki Sc, csc_7 J]
theorem R_348 : PG.2.1 348 = none := rfl
theorem p_348 (O : PO h tk pr d c) : dM PG 348 [.ref (c + 13)] (h.cp tk pr d c F P D R) = some (.inl none, h.cp tk pr d c F P D (zu2 (zu2 R 13 0 0) 13 1 0)) := by
  have J := O.1
  have Sc : ST h c := O.2.2.2.2.2.2.2.2.2.1
  rw [dM_of (Nat.le_of_ble_eq_true rfl)]
  simp -implicitDefEqProofs only [D_348_0, k_348_0, R_348, v_aload_n, g_iconst, g_put_i, g_return, entL, getL, setL, kL_i, kL_r, isI_s, isR_s, isJ_s, gV_s, iV_i, cs0, cs1, cs2, cs3, cs4, dn_nil, kd_si, kd_sl, kd_sw, mr_si, mr_sl, mr_sw, ml_si, ml_sw, mi_sl, cp_k, st_kb Sc, csc_13 J]
def clA (k : Nat) (R : Nat → Nat → Int32) : Nat → Nat → Int32 := zu2 (zu2 R 4 k 0) 5 k 0
def clB (k : Nat) (R : Nat → Nat → Int32) : Nat → Nat → Int32 := zu2 R 6 k 0
def clE (R : Nat → Nat → Int32) : Nat → Nat → Int32 := zu2 (zu2 (zu2 (zu2 R 7 0 0) 7 1 0) 13 0 0) 13 1 0
def clS0 (R : Nat → Nat → Int32) : Nat → Nat → Int32 := zu2 (zu2 (zu2 (zu2 (zu2 R 0 0 0) 0 1 0) 0 3 0) 0 4 0) 0 5 0
def clR (R : Nat → Nat → Int32) : Nat → Nat → Int32 := clE (fl clB 12 0 (fl clA 4 0 (clS0 R)))
theorem R_325 : PG.2.1 325 = none := rfl
theorem l_325b (O : PO h tk pr d c) {tl : Lc} : dB PG 325 54 (some (.ref c) :: some (.int 0) :: tl) [] (h.cp tk pr d c F P D R) = some (.inl none, h.cp tk pr d c F P D (clE (fl clB 12 0 R))) := by
  have J := O.1
  have Sc : ST h c := O.2.2.2.2.2.2.2.2.2.1
  refine lp (n := 12) (I := fun _ _ => True) (h := fun Q => h.cp tk pr d c F P D Q) (f := clB) (L := fun k Q tl => some (.ref c) :: some (.int (Int32.ofNat k)) :: tl) (r := fun Q => some (.inl none, h.cp tk pr d c F P D (clE Q))) ?_ ?_ 12 0 _ tl (by omega) trivial
  · intro k Q tl hk _
    refine ⟨trivial, tl, ?_⟩
    have z : ¬ Int32.ofNat (12) ≤ Int32.ofNat (k) := by rw [i32_le (by omega) (by omega)]; omega
    have s1 : Int32.ofNat (k) + 1 = Int32.ofNat (k + 1) := i32_add (b := 1)
    have b_1 : inb (Int32.ofNat (k)) 12 = true := inb_nat (by omega) (by decide)
    have n_1 : (Int32.ofNat (k)).toNatClampNeg = k := i32_nat (by omega)
    rw [D_325_54]
    simp -implicitDefEqProofs only [D_325_0, k_325_0, k_325_27, D_325_52, k_325_52, k_325_54, D_325_76, k_325_76, R_325, v_aload_n, g_iconst, g_put_i, g_istore_n, v_iload_n, g_icmp_ge, g_getfield, sv_a, rf_s, g_getfieldS, v_iastore, wrI_0, v_iinc, g_goto, v_alen, isA_0, lnA_0, sv_o, v_callV1, aft_v, aft_n, g_return, entL, getL, setL, kL_i, kL_r, isI_s, isR_s, isJ_s, gV_s, iV_i, cs0, cs1, cs2, cs3, cs4, dn_nil, kd_si, kd_sl, kd_sw, mr_si, mr_sl, mr_sw, ml_si, ml_sw, mi_sl, cp_k, cp_r, st_k Sc, st_r11 Sc, st_k6 Sc, csc_6 J, ↓if_neg z, if_neg z, b_1, n_1, s1]
    rfl
  · intro Q tl _
    have z : Int32.ofNat (12) ≤ Int32.ofNat (12) := by rw [i32_le (by omega) (by omega)]; omega
    have g1 := p_347 (F := F) (P := P) (D := D) (R := Q) O
    have g2 := p_348 (F := F) (P := P) (D := D) (R := zu2 (zu2 Q 7 0 0) 7 1 0) O
    rw [D_325_54]
    simp -implicitDefEqProofs only [D_325_0, k_325_0, k_325_27, D_325_52, k_325_52, k_325_54, D_325_76, k_325_76, R_325, v_aload_n, g_iconst, g_put_i, g_istore_n, v_iload_n, g_icmp_ge, g_getfield, sv_a, rf_s, g_getfieldS, v_iastore, wrI_0, v_iinc, g_goto, v_alen, isA_0, lnA_0, sv_o, v_callV1, aft_v, aft_n, g_return, entL, getL, setL, kL_i, kL_r, isI_s, isR_s, isJ_s, gV_s, iV_i, cs0, cs1, cs2, cs3, cs4, dn_nil, kd_si, kd_sl, kd_sw, mr_si, mr_sl, mr_sw, ml_si, ml_sw, mi_sl, cp_k, cp_r, st_k Sc, st_r11 Sc, st_k6 Sc, st_r12 Sc, st_ki Sc, st_r13 Sc, st_kb Sc, ↓if_pos z, if_pos z, g1, g2]
    rfl
theorem p_325 (O : PO h tk pr d c) : dM PG 325 [.ref c] (h.cp tk pr d c F P D R) = some (.inl none, h.cp tk pr d c F P D (clR R)) := by
  have J := O.1
  have Sc : ST h c := O.2.2.2.2.2.2.2.2.2.1
  rw [dM_of (Nat.le_of_ble_eq_true rfl)]
  simp -implicitDefEqProofs only [D_325_0, k_325_0, v_aload_n, g_iconst, g_put_i, g_istore_n, entL, getL, setL, kL_i, kL_r, isI_s, isR_s, isJ_s, gV_s, iV_i, cs0, cs1, cs2, cs3, cs4, dn_nil, kd_si, kd_sl, kd_sw, mr_si, mr_sl, mr_sw, ml_si, ml_sw, mi_sl, cp_k, cp_r, st_k Sc, csc_0 J]
  refine lp (n := 4) (I := fun _ _ => True) (h := fun Q => h.cp tk pr d c F P D Q) (f := clA) (L := fun k Q tl => some (.ref c) :: some (.int (Int32.ofNat k)) :: tl) (r := fun Q => some (.inl none, h.cp tk pr d c F P D (clE (fl clB 12 0 Q)))) ?_ ?_ 4 0 (clS0 R) [] (by omega) trivial
  · intro k Q tl hk _
    refine ⟨trivial, tl, ?_⟩
    have z : ¬ (4 : Int32) ≤ Int32.ofNat k := Int32.not_le.mpr (i32_lt_lit (b := 4) (by omega) hk)
    have s1 : Int32.ofNat (k) + 1 = Int32.ofNat (k + 1) := i32_add (b := 1)
    have b_1 : inb (Int32.ofNat (k)) 4 = true := inb_nat (by omega) (by decide)
    have n_1 : (Int32.ofNat (k)).toNatClampNeg = k := i32_nat (by omega)
    rw [D_325_27]
    simp -implicitDefEqProofs only [D_325_0, k_325_0, k_325_27, D_325_52, k_325_52, k_325_54, D_325_76, k_325_76, R_325, v_aload_n, g_iconst, g_put_i, g_istore_n, v_iload_n, g_icmp_ge, g_getfield, sv_a, rf_s, g_getfieldS, v_iastore, wrI_0, v_iinc, g_goto, v_alen, isA_0, lnA_0, sv_o, v_callV1, aft_v, aft_n, g_return, entL, getL, setL, kL_i, kL_r, isI_s, isR_s, isJ_s, gV_s, iV_i, cs0, cs1, cs2, cs3, cs4, dn_nil, kd_si, kd_sl, kd_sw, mr_si, mr_sl, mr_sw, ml_si, ml_sw, mi_sl, cp_k, cp_r, st_k Sc, st_r9 Sc, st_r10 Sc, st_k4 Sc, st_k5 Sc, csc_4 J, csc_5 J, ↓if_neg z, if_neg z, b_1, n_1, s1]
    rfl
  · intro Q tl _
    have z : (4 : Int32) ≤ Int32.ofNat 4 := by decide
    rw [D_325_27]
    simp -implicitDefEqProofs only [D_325_0, k_325_0, k_325_27, D_325_52, k_325_52, k_325_54, D_325_76, k_325_76, R_325, v_aload_n, g_iconst, g_put_i, g_istore_n, v_iload_n, g_icmp_ge, g_getfield, sv_a, rf_s, g_getfieldS, v_iastore, wrI_0, v_iinc, g_goto, v_alen, isA_0, lnA_0, sv_o, v_callV1, aft_v, aft_n, g_return, entL, getL, setL, kL_i, kL_r, isI_s, isR_s, isJ_s, gV_s, iV_i, cs0, cs1, cs2, cs3, cs4, dn_nil, kd_si, kd_sl, kd_sw, mr_si, mr_sl, mr_sw, ml_si, ml_sw, mi_sl, cp_k, cp_r, st_k Sc, ↓if_pos z, if_pos z, l_325b O]
theorem cl_ok (p3 : P 3 = 0 ∧ P 4 = 0 ∧ P 5 = -1) : CL (clD D) (clR R) P := by
  refine ⟨⟨rfl, rfl, rfl, rfl, rfl, rfl, rfl⟩, rfl, ⟨rfl, rfl, rfl, rfl, rfl, fun k hk => ?_, fun k hk => ?_, rfl, rfl, rfl⟩, p3⟩
  · have : k = 0 ∨ k = 1 ∨ k = 2 ∨ k = 3 := by omega
    rcases this with rfl | rfl | rfl | rfl <;> exact ⟨rfl, rfl⟩
  · have : k = 0 ∨ k = 1 ∨ k = 2 ∨ k = 3 ∨ k = 4 ∨ k = 5 ∨ k = 6 ∨ k = 7 ∨ k = 8 ∨ k = 9 ∨ k = 10 ∨ k = 11 := by omega
    rcases this with rfl | rfl | rfl | rfl | rfl | rfl | rfl | rfl | rfl | rfl | rfl | rfl <;> rfl
end PAS
