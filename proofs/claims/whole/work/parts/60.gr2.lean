-- ===== the grader: an item put, a box closed if full, the pool =====
theorem ml_3 {a : Nat} : Int32.ofNat a * 3 = Int32.ofNat (a * 3) := i32_mul (b := 3)
def gpA (R : Nat → Nat → Int32) (k p i : Nat) : Nat → Nat → Int32 := zu2 (zu2 (zu2 R 6 (k * 3 + p) (R 6 (k * 3 + p) + R 8 i)) 10 i 4) 11 i (Int32.ofNat p)
theorem R_263 : PG.2.1 263 = none := rfl
theorem m_263 {b i k p : Nat} (hi : i < 80) (hk : k < 4) (hp : p < 3) {h : Mm} (T : ST h b) {R : Nat → Nat → Int32} (hR : R 9 i = Int32.ofNat k) : dM PG 263 [.ref b, .int (Int32.ofNat i), .int (Int32.ofNat p)] (h.sb b R) = some (.inl none, h.sb b (gpA R k p i)) := by
  rw [dM_of (Nat.le_of_ble_eq_true rfl)]
  have b_1 : inb (Int32.ofNat (i)) 80 = true := inb_nat (by omega) (by decide)
  have n_1 : (Int32.ofNat (i)).toNatClampNeg = i := i32_nat (by omega)
  have b_2 : inb (Int32.ofNat (k * 3 + p)) 12 = true := inb_nat (by omega) (by decide)
  have n_2 : (Int32.ofNat (k * 3 + p)).toNatClampNeg = k * 3 + p := i32_nat (by omega)
  have e8 : zu2 R 6 (k * 3 + p) (R 6 (k * 3 + p) + R 8 i) 8 = R 8 := z2_o (by decide)
  unfold gpA
  simp -implicitDefEqProofs only [D_263_0, k_263_0, R_263, v_aload_n, g_getfield, sv_a, rf_s, sv_o, v_iload_n, v_iaload, inI_0, g_iconst, g_imul, g_iadd, g_dup2, v_iastore, wrI_0, g_return, entL, getL, setL, kL_i, kL_r, isI_s, isR_s, isJ_s, gV_s, iV_i, cs0, cs1, cs2, cs3, cs4, dn_nil, kd_si, kd_sl, kd_sw, mr_si, mr_sl, mr_sw, ml_si, ml_sw, mi_sl, kd_sb, mr_sb, bm_6, bm_8, bm_9, bs_6, bs_10, bs_11, st_k T, st_r11 T, st_k6 T, st_r12 T, st_ki T, st_i2 T, st_i3 T, st_i4 T, st_i5 T, st_k8 T, st_k9 T, st_k10 T, st_k11 T, b_1, n_1, hR, ml_3, i32_add, b_2, n_2]
def gclA (R : Nat → Nat → Int32) (k p n m : Nat) : Nat → Nat → Int32 := zu2 (fl (gmStep (Int32.ofNat k) (Int32.ofNat p) (Int32.ofNat n)) m 0 (gbA R n (Int32.ofNat k) (R 6 (k * 3 + p)) (R 2 k) (R 0 0))) 6 (k * 3 + p) 0
theorem gbA_7 {R : Nat → Nat → Int32} {n o : Nat} {k w t tm : Int32} (ho : o < 13) : gbA R n k w t tm o = R o := by
  unfold gbA
  rw [z2_o (by omega), z2_o (by omega), z2_o (by omega), z2_o (by omega), z2_o (by omega), z2_o (by omega)]
theorem R_264 : PG.2.1 264 = (some .boolean) := rfl
theorem m_264n {b k p : Nat} (hk : k < 4) (hp : p < 3) {h : Mm} (T : ST h b) {R : Nat → Nat → Int32} (c : R 6 (k * 3 + p) < R 2 k) : dM PG 264 [.ref b, .int (Int32.ofNat k), .int (Int32.ofNat p)] (h.sb b R) = some (.inl (some (.int 0)), h.sb b R) := by
  rw [dM_of (Nat.le_of_ble_eq_true rfl)]
  have b_1 : inb (Int32.ofNat (k)) 4 = true := inb_nat (by omega) (by decide)
  have n_1 : (Int32.ofNat (k)).toNatClampNeg = k := i32_nat (by omega)
  have b_2 : inb (Int32.ofNat (k * 3 + p)) 12 = true := inb_nat (by omega) (by decide)
  have n_2 : (Int32.ofNat (k * 3 + p)).toNatClampNeg = k * 3 + p := i32_nat (by omega)
  have c2 : ¬ R 2 k ≤ R 6 (k * 3 + p) := Int32.not_le.mpr c
  simp -implicitDefEqProofs only [D_264_0, k_264_0, R_264, v_iload_n, g_iconst, g_imul, g_iadd, g_istore_n, v_aload_n, g_getfield, sv_a, rf_s, v_iaload, inI_0, g_icmp_ge, g_ireturn, entL, getL, setL, kL_i, kL_r, isI_s, isR_s, isJ_s, gV_s, iV_i, cs0, cs1, cs2, cs3, cs4, dn_nil, kd_si, kd_sl, kd_sw, mr_si, mr_sl, mr_sw, ml_si, ml_sw, mi_sl, kd_sb, mr_sb, bm_6, bm_2, st_k T, st_r11 T, st_k6 T, st_r7 T, st_k2 T, b_1, n_1, ml_3, i32_add, b_2, n_2, if_neg c2, rX_0]
theorem m_264y {b k p n m : Nat} (hk : k < 4) (hp : p < 3) (hn : n < 80) (hm : m ≤ 80) {h : Mm} (T : ST h b) {R : Nat → Nat → Int32} (h13 : R 13 0 = Int32.ofNat n) (h70 : R 7 0 = Int32.ofNat m) (c : ¬ R 6 (k * 3 + p) < R 2 k) : dM PG 264 [.ref b, .int (Int32.ofNat k), .int (Int32.ofNat p)] (h.sb b R) = some (.inl (some (.int 1)), h.sb b (gclA R k p n m)) := by
  rw [dM_of (Nat.le_of_ble_eq_true rfl)]
  have b_1 : inb (Int32.ofNat (k)) 4 = true := inb_nat (by omega) (by decide)
  have n_1 : (Int32.ofNat (k)).toNatClampNeg = k := i32_nat (by omega)
  have b_2 : inb (Int32.ofNat (k * 3 + p)) 12 = true := inb_nat (by omega) (by decide)
  have n_2 : (Int32.ofNat (k * 3 + p)).toNatClampNeg = k * 3 + p := i32_nat (by omega)
  have c2 : R 2 k ≤ R 6 (k * 3 + p) := Int32.not_lt.mp c
  have g1 := m_311 (k := Int32.ofNat k) (w := R 6 (k * 3 + p)) (t := R 2 k) (tm := R 0 0) hn T h13
  have g2 := m_312 (k := Int32.ofNat k) (p := Int32.ofNat p) (x := Int32.ofNat n) hm T (R := gbA R n (Int32.ofNat k) (R 6 (k * 3 + p)) (R 2 k) (R 0 0)) (by rw [gbA_7 (by decide), h70])
  unfold gclA
  simp -implicitDefEqProofs only [D_264_0, k_264_0, D_264_23, k_264_23, R_264, v_iload_n, g_iconst, g_imul, g_iadd, g_istore_n, v_aload_n, g_getfield, sv_a, rf_s, v_iaload, inI_0, g_icmp_ge, g_ireturn, sv_o, sv_i, v_callV5, aft_v, aft_n, g_istore, v_iload, v_callV4, v_iastore, wrI_0, entL, getL, setL, kL_i, kL_r, isI_s, isR_s, isJ_s, gV_s, iV_i, cs0, cs1, cs2, cs3, cs4, dn_nil, kd_si, kd_sl, kd_sw, mr_si, mr_sl, mr_sw, ml_si, ml_sw, mi_sl, kd_sb, mr_sb, bm_0, bm_6, bm_2, bs_6, st_k T, st_r11 T, st_k6 T, st_r7 T, st_k2 T, st_r12 T, st_ki T, st_r13 T, st_kb T, b_1, n_1, ml_3, i32_add, b_2, n_2, if_pos c2, g1, g2, rX_1]
theorem R_345 : PG.2.1 345 = none := rfl
def gpoA (R : Nat → Nat → Int32) (i pc : Nat) : Nat → Nat → Int32 := zu2 (zu2 (zu2 R 1 pc (Int32.ofNat i)) 0 5 (Int32.ofNat (pc + 1))) 10 i 3
theorem m_345 {b i pc : Nat} (hi : i < 80) (hp : pc < 10) {h : Mm} (T : ST h b) {R : Nat → Nat → Int32} (hR : R 0 5 = Int32.ofNat pc) : dM PG 345 [.ref b, .int (Int32.ofNat i)] (h.sb b R) = some (.inl none, h.sb b (gpoA R i pc)) := by
  rw [dM_of (Nat.le_of_ble_eq_true rfl)]
  have b_1 : inb (Int32.ofNat (i)) 80 = true := inb_nat (by omega) (by decide)
  have n_1 : (Int32.ofNat (i)).toNatClampNeg = i := i32_nat (by omega)
  have b_2 : inb (Int32.ofNat (pc)) 10 = true := inb_nat (by omega) (by decide)
  have n_2 : (Int32.ofNat (pc)).toNatClampNeg = pc := i32_nat (by omega)
  have s1 : Int32.ofNat pc + 1 = Int32.ofNat (pc + 1) := i32_add (b := 1)
  have c : ¬ (10 : Int32) ≤ Int32.ofNat pc := by
    show ¬ Int32.ofNat 10 ≤ Int32.ofNat pc
    rw [i32_le (by decide) (by omega)]; omega
  have e5 : zu2 R 1 pc (Int32.ofNat i) 0 = R 0 := z2_o (by decide)
  unfold gpoA
  simp -implicitDefEqProofs only [D_345_0, k_345_0, D_345_39, k_345_39, R_345, v_aload_n, g_getfield, sv_i, rf_s, g_bipush, g_icmp_ge, sv_a, v_iload_n, v_iastore, wrI_0, g_dup_i, g_dup_r, g_iconst, g_iadd, g_put_i, sv_o, g_return, entL, getL, setL, kL_i, kL_r, isI_s, isR_s, isJ_s, gV_s, iV_i, cs0, cs1, cs2, cs3, cs4, dn_nil, kd_si, kd_sl, kd_sw, mr_si, mr_sl, mr_sw, ml_si, ml_sw, mi_sl, kd_sb, mr_sb, bm_0, bs_0, bs_1, bs_10, st_k T, st_r6 T, st_k1 T, st_r12 T, st_ki T, st_i4 T, st_k10 T, hR, e5, if_neg c, b_1, n_1, b_2, n_2, s1]
theorem R_375 : PG.2.1 375 = (some .boolean) := rfl
theorem m_375 {b : Nat} {x z : Int32} {h : Mm} (T : ST h b) {R : Nat → Nat → Int32} : dM PG 375 [.ref b, .int x, .int z] (h.sb b R) = some (.inl (some (.int (b2i (chB (R 0 1) x z)))), h.sb b R) := by
  rw [dM_of (Nat.le_of_ble_eq_true rfl)]
  by_cases a : R 0 1 = 1
  · have a2 : ¬ (1 : Int32) = 2 := by decide
    by_cases c : z < x
    · have e : b2i (chB (R 0 1) x z) = 1 := by unfold chB; rw [if_pos a, decide_eq_true c]; rfl
      rw [e]
      simp -implicitDefEqProofs only [D_375_0, k_375_0, D_375_26, k_375_26, D_375_31, k_375_31, R_375, v_aload_n, g_getfield, sv_i, rf_s, g_iconst, g_icmp_ne, v_iload_n, g_icmp_gt, g_goto, g_ireturn, entL, getL, setL, kL_i, kL_r, isI_s, isR_s, isJ_s, gV_s, iV_i, cs0, cs1, cs2, cs3, cs4, dn_nil, kd_si, kd_sl, kd_sw, mr_si, mr_sl, mr_sw, ml_si, ml_sw, mi_sl, kd_sb, bm_0, st_k T, a, if_true, if_pos c, rX_1]
    · have e : b2i (chB (R 0 1) x z) = 0 := by unfold chB; rw [if_pos a, decide_eq_false c]; rfl
      rw [e]
      simp -implicitDefEqProofs only [D_375_0, k_375_0, D_375_13, k_375_13, D_375_30, k_375_30, D_375_31, k_375_31, R_375, v_aload_n, g_getfield, sv_i, rf_s, g_iconst, g_icmp_ne, v_iload_n, g_icmp_gt, g_icmp_ge, g_ireturn, entL, getL, setL, kL_i, kL_r, isI_s, isR_s, isJ_s, gV_s, iV_i, cs0, cs1, cs2, cs3, cs4, dn_nil, kd_si, kd_sl, kd_sw, mr_si, mr_sl, mr_sw, ml_si, ml_sw, mi_sl, kd_sb, bm_0, st_k T, a, if_true, if_neg c, if_neg a2, rX_0]
  · by_cases d : R 0 1 = 2
    · by_cases c : x < z
      · have e : b2i (chB (R 0 1) x z) = 1 := by unfold chB; rw [if_neg a, if_pos d, decide_eq_true c]; rfl
        have c2 : ¬ z ≤ x := Int32.not_le.mpr c
        rw [e]
        simp -implicitDefEqProofs only [D_375_0, k_375_0, D_375_13, k_375_13, D_375_26, k_375_26, D_375_31, k_375_31, R_375, v_aload_n, g_getfield, sv_i, rf_s, g_iconst, g_icmp_ne, v_iload_n, g_icmp_gt, g_icmp_ge, g_goto, g_ireturn, entL, getL, setL, kL_i, kL_r, isI_s, isR_s, isJ_s, gV_s, iV_i, cs0, cs1, cs2, cs3, cs4, dn_nil, kd_si, kd_sl, kd_sw, mr_si, mr_sl, mr_sw, ml_si, ml_sw, mi_sl, kd_sb, bm_0, st_k T, if_neg a, if_pos d, if_neg c2, rX_1]
      · have e : b2i (chB (R 0 1) x z) = 0 := by unfold chB; rw [if_neg a, if_pos d, decide_eq_false c]; rfl
        have c2 : z ≤ x := Int32.not_lt.mp c
        rw [e]
        simp -implicitDefEqProofs only [D_375_0, k_375_0, D_375_13, k_375_13, D_375_30, k_375_30, D_375_31, k_375_31, R_375, v_aload_n, g_getfield, sv_i, rf_s, g_iconst, g_icmp_ne, v_iload_n, g_icmp_gt, g_icmp_ge, g_ireturn, entL, getL, setL, kL_i, kL_r, isI_s, isR_s, isJ_s, gV_s, iV_i, cs0, cs1, cs2, cs3, cs4, dn_nil, kd_si, kd_sl, kd_sw, mr_si, mr_sl, mr_sw, ml_si, ml_sw, mi_sl, kd_sb, bm_0, st_k T, if_neg a, if_pos d, if_pos c2, rX_0]
    · have e : b2i (chB (R 0 1) x z) = 0 := by unfold chB; rw [if_neg a, if_neg d]; rfl
      rw [e]
      simp -implicitDefEqProofs only [D_375_0, k_375_0, D_375_13, k_375_13, D_375_30, k_375_30, D_375_31, k_375_31, R_375, v_aload_n, g_getfield, sv_i, rf_s, g_iconst, g_icmp_ne, v_iload_n, g_icmp_gt, g_icmp_ge, g_ireturn, entL, getL, setL, kL_i, kL_r, isI_s, isR_s, isJ_s, gV_s, iV_i, cs0, cs1, cs2, cs3, cs4, dn_nil, kd_si, kd_sl, kd_sw, mr_si, mr_sl, mr_sw, ml_si, ml_sw, mi_sl, kd_sb, bm_0, st_k T, if_neg a, if_neg d, rX_0]
