-- ===== the law's wrappers =====
theorem inJ_290 : inb 0 1 = true := by decide
theorem R_3 : PG.2.1 3 = (some .int) := rfl
theorem w_3 {a0 : Int32} {v : Int32} {h h1 : Mm} (k : h.kd 200 = some (.inl 7)) (k2 : h1.kd 290 = some (.inr (.long, 1))) (g : dM PG 135 [.ref 200, .int a0] h = some (.inl (some (.int v)), h1)) : dM PG 3 [.ref 200, .int a0, .ref 290] h = some (.inl (some (.int 0)), h1.sl 290 0 v.toInt64) := by
  rw [dM_of (Nat.le_of_ble_eq_true rfl)]
  simp -implicitDefEqProofs only [D_3_0, k_3_0, D_3_13, k_3_13, D_3_15, k_3_15, R_3, v_aload_n, g_iconst, v_iload_n, v_callV2, aft_v, aft_n, g_i2l, v_lastore, inJ_0, g_goto, g_ireturn, entL, getL, setL, kL_i, kL_r, isI_s, isR_s, isJ_s, gV_s, iV_i, cs0, cs1, cs2, cs3, cs4, dn_nil, kd_si, kd_sl, kd_sw, mr_si, mr_sl, mr_sw, ml_si, ml_sw, mi_sl, k, k2, g, inJ_290, ix_0, retX_int]
theorem x_3_1 : PG.2.2.1 3 (exN 1) = some (13, 3) := rfl
theorem w_3_x1 {a0 : Int32} {h h1 : Mm} (k : h.kd 200 = some (.inl 7)) (g : dM PG 135 [.ref 200, .int a0] h = some (.inr (exN 1), h1)) : dM PG 3 [.ref 200, .int a0, .ref 290] h = some (.inl (some (.int 1)), h1) := by
  rw [dM_of (Nat.le_of_ble_eq_true rfl)]
  simp -implicitDefEqProofs only [D_3_0, k_3_0, D_3_13, k_3_13, D_3_15, k_3_15, R_3, v_aload_n, g_iconst, v_iload_n, v_callV2, aft_v, aft_n, g_i2l, v_lastore, inJ_0, g_goto, g_ireturn, entL, getL, setL, kL_i, kL_r, isI_s, isR_s, isJ_s, gV_s, iV_i, cs0, cs1, cs2, cs3, cs4, dn_nil, kd_si, kd_sl, kd_sw, mr_si, mr_sl, mr_sw, ml_si, ml_sw, mi_sl, k, g, aft_c x_3_1, catL, retX_int]
theorem R_6 : PG.2.1 6 = (some .int) := rfl
theorem w_6 {v : Int32} {h h1 : Mm} (k : h.kd 200 = some (.inl 7)) (k2 : h1.kd 290 = some (.inr (.long, 1))) (g : dM PG 137 [.ref 200] h = some (.inl (some (.int v)), h1)) : dM PG 6 [.ref 200, .ref 290] h = some (.inl (some (.int 0)), h1.sl 290 0 v.toInt64) := by
  rw [dM_of (Nat.le_of_ble_eq_true rfl)]
  simp -implicitDefEqProofs only [D_6_0, k_6_0, D_6_12, k_6_12, D_6_14, k_6_14, R_6, v_aload_n, g_iconst, v_callV1, aft_v, aft_n, g_i2l, v_lastore, inJ_0, g_goto, g_ireturn, entL, getL, setL, kL_i, kL_r, isI_s, isR_s, isJ_s, gV_s, iV_i, cs0, cs1, cs2, cs3, cs4, dn_nil, kd_si, kd_sl, kd_sw, mr_si, mr_sl, mr_sw, ml_si, ml_sw, mi_sl, k, k2, g, inJ_290, ix_0, retX_int]
theorem x_6_0 : PG.2.2.1 6 (exN 0) = some (12, 2) := rfl
theorem w_6_x0 {h h1 : Mm} (k : h.kd 200 = some (.inl 7)) (g : dM PG 137 [.ref 200] h = some (.inr (exN 0), h1)) : dM PG 6 [.ref 200, .ref 290] h = some (.inl (some (.int 1)), h1) := by
  rw [dM_of (Nat.le_of_ble_eq_true rfl)]
  simp -implicitDefEqProofs only [D_6_0, k_6_0, D_6_12, k_6_12, D_6_14, k_6_14, R_6, v_aload_n, g_iconst, v_callV1, aft_v, aft_n, g_i2l, v_lastore, inJ_0, g_goto, g_ireturn, entL, getL, setL, kL_i, kL_r, isI_s, isR_s, isJ_s, gV_s, iV_i, cs0, cs1, cs2, cs3, cs4, dn_nil, kd_si, kd_sl, kd_sw, mr_si, mr_sl, mr_sw, ml_si, ml_sw, mi_sl, k, g, aft_c x_6_0, catL, retX_int]
theorem R_8 : PG.2.1 8 = (some .int) := rfl
theorem w_8 {a0 : Int32} {v : Int32} {h h1 : Mm} (k : h.kd 200 = some (.inl 7)) (k2 : h1.kd 290 = some (.inr (.long, 1))) (g : dM PG 147 [.ref 200, .int a0] h = some (.inl (some (.int v)), h1)) : dM PG 8 [.ref 200, .int a0, .ref 290] h = some (.inl (some (.int 0)), h1.sl 290 0 v.toInt64) := by
  rw [dM_of (Nat.le_of_ble_eq_true rfl)]
  simp -implicitDefEqProofs only [D_8_0, k_8_0, D_8_13, k_8_13, D_8_16, k_8_16, D_8_18, k_8_18, R_8, v_aload_n, g_iconst, v_iload_n, v_callV2, aft_v, aft_n, g_i2l, v_lastore, inJ_0, g_goto, g_ireturn, entL, getL, setL, kL_i, kL_r, isI_s, isR_s, isJ_s, gV_s, iV_i, cs0, cs1, cs2, cs3, cs4, dn_nil, kd_si, kd_sl, kd_sw, mr_si, mr_sl, mr_sw, ml_si, ml_sw, mi_sl, k, k2, g, inJ_290, ix_0, retX_int]
theorem x_8_0 : PG.2.2.1 8 (exN 0) = some (13, 3) := rfl
theorem w_8_x0 {a0 : Int32} {h h1 : Mm} (k : h.kd 200 = some (.inl 7)) (g : dM PG 147 [.ref 200, .int a0] h = some (.inr (exN 0), h1)) : dM PG 8 [.ref 200, .int a0, .ref 290] h = some (.inl (some (.int 1)), h1) := by
  rw [dM_of (Nat.le_of_ble_eq_true rfl)]
  simp -implicitDefEqProofs only [D_8_0, k_8_0, D_8_13, k_8_13, D_8_16, k_8_16, D_8_18, k_8_18, R_8, v_aload_n, g_iconst, v_iload_n, v_callV2, aft_v, aft_n, g_i2l, v_lastore, inJ_0, g_goto, g_ireturn, entL, getL, setL, kL_i, kL_r, isI_s, isR_s, isJ_s, gV_s, iV_i, cs0, cs1, cs2, cs3, cs4, dn_nil, kd_si, kd_sl, kd_sw, mr_si, mr_sl, mr_sw, ml_si, ml_sw, mi_sl, k, g, aft_c x_8_0, catL, retX_int]
theorem x_8_1 : PG.2.2.1 8 (exN 1) = some (16, 3) := rfl
theorem w_8_x1 {a0 : Int32} {h h1 : Mm} (k : h.kd 200 = some (.inl 7)) (g : dM PG 147 [.ref 200, .int a0] h = some (.inr (exN 1), h1)) : dM PG 8 [.ref 200, .int a0, .ref 290] h = some (.inl (some (.int 2)), h1) := by
  rw [dM_of (Nat.le_of_ble_eq_true rfl)]
  simp -implicitDefEqProofs only [D_8_0, k_8_0, D_8_13, k_8_13, D_8_16, k_8_16, D_8_18, k_8_18, R_8, v_aload_n, g_iconst, v_iload_n, v_callV2, aft_v, aft_n, g_i2l, v_lastore, inJ_0, g_goto, g_ireturn, entL, getL, setL, kL_i, kL_r, isI_s, isR_s, isJ_s, gV_s, iV_i, cs0, cs1, cs2, cs3, cs4, dn_nil, kd_si, kd_sl, kd_sw, mr_si, mr_sl, mr_sw, ml_si, ml_sw, mi_sl, k, g, aft_c x_8_1, catL, retX_int]
theorem R_10 : PG.2.1 10 = (some .int) := rfl
theorem w_10 {v : Int32} {h h1 : Mm} (k : h.kd 200 = some (.inl 7)) (k2 : h1.kd 290 = some (.inr (.long, 1))) (g : dM PG 149 [.ref 200] h = some (.inl (some (.int v)), h1)) : dM PG 10 [.ref 200, .ref 290] h = some (.inl (some (.int 0)), h1.sl 290 0 v.toInt64) := by
  rw [dM_of (Nat.le_of_ble_eq_true rfl)]
  simp -implicitDefEqProofs only [D_10_0, k_10_0, D_10_12, k_10_12, D_10_14, k_10_14, R_10, v_aload_n, g_iconst, v_callV1, aft_v, aft_n, g_i2l, v_lastore, inJ_0, g_goto, g_ireturn, entL, getL, setL, kL_i, kL_r, isI_s, isR_s, isJ_s, gV_s, iV_i, cs0, cs1, cs2, cs3, cs4, dn_nil, kd_si, kd_sl, kd_sw, mr_si, mr_sl, mr_sw, ml_si, ml_sw, mi_sl, k, k2, g, inJ_290, ix_0, retX_int]
theorem x_10_0 : PG.2.2.1 10 (exN 0) = some (12, 2) := rfl
theorem w_10_x0 {h h1 : Mm} (k : h.kd 200 = some (.inl 7)) (g : dM PG 149 [.ref 200] h = some (.inr (exN 0), h1)) : dM PG 10 [.ref 200, .ref 290] h = some (.inl (some (.int 1)), h1) := by
  rw [dM_of (Nat.le_of_ble_eq_true rfl)]
  simp -implicitDefEqProofs only [D_10_0, k_10_0, D_10_12, k_10_12, D_10_14, k_10_14, R_10, v_aload_n, g_iconst, v_callV1, aft_v, aft_n, g_i2l, v_lastore, inJ_0, g_goto, g_ireturn, entL, getL, setL, kL_i, kL_r, isI_s, isR_s, isJ_s, gV_s, iV_i, cs0, cs1, cs2, cs3, cs4, dn_nil, kd_si, kd_sl, kd_sw, mr_si, mr_sl, mr_sw, ml_si, ml_sw, mi_sl, k, g, aft_c x_10_0, catL, retX_int]
theorem R_12 : PG.2.1 12 = (some .int) := rfl
theorem w_12 {v : Int32} {h h1 : Mm} (k : h.kd 200 = some (.inl 7)) (k2 : h1.kd 290 = some (.inr (.long, 1))) (g : dM PG 151 [.ref 200] h = some (.inl (some (.int v)), h1)) : dM PG 12 [.ref 200, .ref 290] h = some (.inl (some (.int 0)), h1.sl 290 0 v.toInt64) := by
  rw [dM_of (Nat.le_of_ble_eq_true rfl)]
  simp -implicitDefEqProofs only [D_12_0, k_12_0, D_12_12, k_12_12, D_12_14, k_12_14, R_12, v_aload_n, g_iconst, v_callV1, aft_v, aft_n, g_i2l, v_lastore, inJ_0, g_goto, g_ireturn, entL, getL, setL, kL_i, kL_r, isI_s, isR_s, isJ_s, gV_s, iV_i, cs0, cs1, cs2, cs3, cs4, dn_nil, kd_si, kd_sl, kd_sw, mr_si, mr_sl, mr_sw, ml_si, ml_sw, mi_sl, k, k2, g, inJ_290, ix_0, retX_int]
theorem x_12_0 : PG.2.2.1 12 (exN 0) = some (12, 2) := rfl
theorem w_12_x0 {h h1 : Mm} (k : h.kd 200 = some (.inl 7)) (g : dM PG 151 [.ref 200] h = some (.inr (exN 0), h1)) : dM PG 12 [.ref 200, .ref 290] h = some (.inl (some (.int 1)), h1) := by
  rw [dM_of (Nat.le_of_ble_eq_true rfl)]
  simp -implicitDefEqProofs only [D_12_0, k_12_0, D_12_12, k_12_12, D_12_14, k_12_14, R_12, v_aload_n, g_iconst, v_callV1, aft_v, aft_n, g_i2l, v_lastore, inJ_0, g_goto, g_ireturn, entL, getL, setL, kL_i, kL_r, isI_s, isR_s, isJ_s, gV_s, iV_i, cs0, cs1, cs2, cs3, cs4, dn_nil, kd_si, kd_sl, kd_sw, mr_si, mr_sl, mr_sw, ml_si, ml_sw, mi_sl, k, g, aft_c x_12_0, catL, retX_int]
theorem R_16 : PG.2.1 16 = (some .int) := rfl
theorem w_16 {v : Int32} {h h1 : Mm} (k : h.kd 200 = some (.inl 7)) (k2 : h1.kd 290 = some (.inr (.long, 1))) (g : dM PG 152 [.ref 200] h = some (.inl (some (.int v)), h1)) : dM PG 16 [.ref 200, .ref 290] h = some (.inl (some (.int 0)), h1.sl 290 0 v.toInt64) := by
  rw [dM_of (Nat.le_of_ble_eq_true rfl)]
  simp -implicitDefEqProofs only [D_16_0, k_16_0, D_16_12, k_16_12, D_16_14, k_16_14, R_16, v_aload_n, g_iconst, v_callV1, aft_v, aft_n, g_i2l, v_lastore, inJ_0, g_goto, g_ireturn, entL, getL, setL, kL_i, kL_r, isI_s, isR_s, isJ_s, gV_s, iV_i, cs0, cs1, cs2, cs3, cs4, dn_nil, kd_si, kd_sl, kd_sw, mr_si, mr_sl, mr_sw, ml_si, ml_sw, mi_sl, k, k2, g, inJ_290, ix_0, retX_int]
theorem x_16_0 : PG.2.2.1 16 (exN 0) = some (12, 2) := rfl
theorem w_16_x0 {h h1 : Mm} (k : h.kd 200 = some (.inl 7)) (g : dM PG 152 [.ref 200] h = some (.inr (exN 0), h1)) : dM PG 16 [.ref 200, .ref 290] h = some (.inl (some (.int 1)), h1) := by
  rw [dM_of (Nat.le_of_ble_eq_true rfl)]
  simp -implicitDefEqProofs only [D_16_0, k_16_0, D_16_12, k_16_12, D_16_14, k_16_14, R_16, v_aload_n, g_iconst, v_callV1, aft_v, aft_n, g_i2l, v_lastore, inJ_0, g_goto, g_ireturn, entL, getL, setL, kL_i, kL_r, isI_s, isR_s, isJ_s, gV_s, iV_i, cs0, cs1, cs2, cs3, cs4, dn_nil, kd_si, kd_sl, kd_sw, mr_si, mr_sl, mr_sw, ml_si, ml_sw, mi_sl, k, g, aft_c x_16_0, catL, retX_int]
theorem R_18 : PG.2.1 18 = (some .int) := rfl
theorem w_18 {a0 a1 a2 : Int32} {v : Int32} {h h1 : Mm} (k : h.kd 200 = some (.inl 7)) (k2 : h1.kd 290 = some (.inr (.long, 1))) (g : dM PG 153 [.ref 200, .int a0, .int a1, .int a2] h = some (.inl (some (.int v)), h1)) : dM PG 18 [.ref 200, .int a0, .int a1, .int a2, .ref 290] h = some (.inl (some (.int 0)), h1.sl 290 0 v.toInt64) := by
  rw [dM_of (Nat.le_of_ble_eq_true rfl)]
  simp -implicitDefEqProofs only [D_18_0, k_18_0, D_18_17, k_18_17, D_18_21, k_18_21, D_18_25, k_18_25, D_18_27, k_18_27, R_18, v_aload, g_iconst, v_aload_n, v_iload_n, v_callV4, aft_v, aft_n, g_i2l, v_lastore, inJ_0, g_goto, g_ireturn, entL, getL, setL, kL_i, kL_r, isI_s, isR_s, isJ_s, gV_s, iV_i, cs0, cs1, cs2, cs3, cs4, dn_nil, kd_si, kd_sl, kd_sw, mr_si, mr_sl, mr_sw, ml_si, ml_sw, mi_sl, k, k2, g, inJ_290, ix_0, retX_int]
theorem x_18_0 : PG.2.2.1 18 (exN 0) = some (17, 5) := rfl
theorem w_18_x0 {a0 a1 a2 : Int32} {h h1 : Mm} (k : h.kd 200 = some (.inl 7)) (g : dM PG 153 [.ref 200, .int a0, .int a1, .int a2] h = some (.inr (exN 0), h1)) : dM PG 18 [.ref 200, .int a0, .int a1, .int a2, .ref 290] h = some (.inl (some (.int 1)), h1) := by
  rw [dM_of (Nat.le_of_ble_eq_true rfl)]
  simp -implicitDefEqProofs only [D_18_0, k_18_0, D_18_17, k_18_17, D_18_21, k_18_21, D_18_25, k_18_25, D_18_27, k_18_27, R_18, v_aload, g_iconst, v_aload_n, v_iload_n, v_callV4, aft_v, aft_n, g_i2l, v_lastore, inJ_0, g_goto, g_ireturn, entL, getL, setL, kL_i, kL_r, isI_s, isR_s, isJ_s, gV_s, iV_i, cs0, cs1, cs2, cs3, cs4, dn_nil, kd_si, kd_sl, kd_sw, mr_si, mr_sl, mr_sw, ml_si, ml_sw, mi_sl, k, g, aft_c x_18_0, catL, retX_int]
theorem x_18_1 : PG.2.2.1 18 (exN 1) = some (21, 5) := rfl
theorem w_18_x1 {a0 a1 a2 : Int32} {h h1 : Mm} (k : h.kd 200 = some (.inl 7)) (g : dM PG 153 [.ref 200, .int a0, .int a1, .int a2] h = some (.inr (exN 1), h1)) : dM PG 18 [.ref 200, .int a0, .int a1, .int a2, .ref 290] h = some (.inl (some (.int 2)), h1) := by
  rw [dM_of (Nat.le_of_ble_eq_true rfl)]
  simp -implicitDefEqProofs only [D_18_0, k_18_0, D_18_17, k_18_17, D_18_21, k_18_21, D_18_25, k_18_25, D_18_27, k_18_27, R_18, v_aload, g_iconst, v_aload_n, v_iload_n, v_callV4, aft_v, aft_n, g_i2l, v_lastore, inJ_0, g_goto, g_ireturn, entL, getL, setL, kL_i, kL_r, isI_s, isR_s, isJ_s, gV_s, iV_i, cs0, cs1, cs2, cs3, cs4, dn_nil, kd_si, kd_sl, kd_sw, mr_si, mr_sl, mr_sw, ml_si, ml_sw, mi_sl, k, g, aft_c x_18_1, catL, retX_int]
theorem x_18_2 : PG.2.2.1 18 (exN 2) = some (25, 5) := rfl
theorem w_18_x2 {a0 a1 a2 : Int32} {h h1 : Mm} (k : h.kd 200 = some (.inl 7)) (g : dM PG 153 [.ref 200, .int a0, .int a1, .int a2] h = some (.inr (exN 2), h1)) : dM PG 18 [.ref 200, .int a0, .int a1, .int a2, .ref 290] h = some (.inl (some (.int 3)), h1) := by
  rw [dM_of (Nat.le_of_ble_eq_true rfl)]
  simp -implicitDefEqProofs only [D_18_0, k_18_0, D_18_17, k_18_17, D_18_21, k_18_21, D_18_25, k_18_25, D_18_27, k_18_27, R_18, v_aload, g_iconst, v_aload_n, v_iload_n, v_callV4, aft_v, aft_n, g_i2l, v_lastore, inJ_0, g_goto, g_ireturn, entL, getL, setL, kL_i, kL_r, isI_s, isR_s, isJ_s, gV_s, iV_i, cs0, cs1, cs2, cs3, cs4, dn_nil, kd_si, kd_sl, kd_sw, mr_si, mr_sl, mr_sw, ml_si, ml_sw, mi_sl, k, g, aft_c x_18_2, catL, retX_int]
theorem R_20 : PG.2.1 20 = (some .int) := rfl
theorem w_20 {a0 a1 : Int32} {v : Int32} {h h1 : Mm} (k : h.kd 200 = some (.inl 7)) (k2 : h1.kd 290 = some (.inr (.long, 1))) (g : dM PG 158 [.ref 200, .int a0, .int a1] h = some (.inl (some (.int v)), h1)) : dM PG 20 [.ref 200, .int a0, .int a1, .ref 290] h = some (.inl (some (.int 0)), h1.sl 290 0 v.toInt64) := by
  rw [dM_of (Nat.le_of_ble_eq_true rfl)]
  simp -implicitDefEqProofs only [D_20_0, k_20_0, D_20_15, k_20_15, D_20_19, k_20_19, D_20_23, k_20_23, D_20_25, k_20_25, R_20, v_aload_n, g_iconst, v_iload_n, v_callV3, aft_v, aft_n, g_i2l, v_lastore, inJ_0, g_goto, g_ireturn, entL, getL, setL, kL_i, kL_r, isI_s, isR_s, isJ_s, gV_s, iV_i, cs0, cs1, cs2, cs3, cs4, dn_nil, kd_si, kd_sl, kd_sw, mr_si, mr_sl, mr_sw, ml_si, ml_sw, mi_sl, k, k2, g, inJ_290, ix_0, retX_int]
theorem x_20_0 : PG.2.2.1 20 (exN 0) = some (15, 4) := rfl
theorem w_20_x0 {a0 a1 : Int32} {h h1 : Mm} (k : h.kd 200 = some (.inl 7)) (g : dM PG 158 [.ref 200, .int a0, .int a1] h = some (.inr (exN 0), h1)) : dM PG 20 [.ref 200, .int a0, .int a1, .ref 290] h = some (.inl (some (.int 1)), h1) := by
  rw [dM_of (Nat.le_of_ble_eq_true rfl)]
  simp -implicitDefEqProofs only [D_20_0, k_20_0, D_20_15, k_20_15, D_20_19, k_20_19, D_20_23, k_20_23, D_20_25, k_20_25, R_20, v_aload_n, g_iconst, v_iload_n, v_callV3, aft_v, aft_n, g_i2l, v_lastore, inJ_0, g_goto, g_ireturn, entL, getL, setL, kL_i, kL_r, isI_s, isR_s, isJ_s, gV_s, iV_i, cs0, cs1, cs2, cs3, cs4, dn_nil, kd_si, kd_sl, kd_sw, mr_si, mr_sl, mr_sw, ml_si, ml_sw, mi_sl, k, g, aft_c x_20_0, catL, retX_int]
theorem x_20_1 : PG.2.2.1 20 (exN 1) = some (19, 4) := rfl
theorem w_20_x1 {a0 a1 : Int32} {h h1 : Mm} (k : h.kd 200 = some (.inl 7)) (g : dM PG 158 [.ref 200, .int a0, .int a1] h = some (.inr (exN 1), h1)) : dM PG 20 [.ref 200, .int a0, .int a1, .ref 290] h = some (.inl (some (.int 2)), h1) := by
  rw [dM_of (Nat.le_of_ble_eq_true rfl)]
  simp -implicitDefEqProofs only [D_20_0, k_20_0, D_20_15, k_20_15, D_20_19, k_20_19, D_20_23, k_20_23, D_20_25, k_20_25, R_20, v_aload_n, g_iconst, v_iload_n, v_callV3, aft_v, aft_n, g_i2l, v_lastore, inJ_0, g_goto, g_ireturn, entL, getL, setL, kL_i, kL_r, isI_s, isR_s, isJ_s, gV_s, iV_i, cs0, cs1, cs2, cs3, cs4, dn_nil, kd_si, kd_sl, kd_sw, mr_si, mr_sl, mr_sw, ml_si, ml_sw, mi_sl, k, g, aft_c x_20_1, catL, retX_int]
theorem x_20_2 : PG.2.2.1 20 (exN 2) = some (23, 4) := rfl
theorem w_20_x2 {a0 a1 : Int32} {h h1 : Mm} (k : h.kd 200 = some (.inl 7)) (g : dM PG 158 [.ref 200, .int a0, .int a1] h = some (.inr (exN 2), h1)) : dM PG 20 [.ref 200, .int a0, .int a1, .ref 290] h = some (.inl (some (.int 3)), h1) := by
  rw [dM_of (Nat.le_of_ble_eq_true rfl)]
  simp -implicitDefEqProofs only [D_20_0, k_20_0, D_20_15, k_20_15, D_20_19, k_20_19, D_20_23, k_20_23, D_20_25, k_20_25, R_20, v_aload_n, g_iconst, v_iload_n, v_callV3, aft_v, aft_n, g_i2l, v_lastore, inJ_0, g_goto, g_ireturn, entL, getL, setL, kL_i, kL_r, isI_s, isR_s, isJ_s, gV_s, iV_i, cs0, cs1, cs2, cs3, cs4, dn_nil, kd_si, kd_sl, kd_sw, mr_si, mr_sl, mr_sw, ml_si, ml_sw, mi_sl, k, g, aft_c x_20_2, catL, retX_int]
theorem R_22 : PG.2.1 22 = (some .int) := rfl
theorem w_22 {a0 : Int32} {v : Int32} {h h1 : Mm} (k : h.kd 200 = some (.inl 7)) (k2 : h1.kd 290 = some (.inr (.long, 1))) (g : dM PG 160 [.ref 200, .int a0] h = some (.inl (some (.int v)), h1)) : dM PG 22 [.ref 200, .int a0, .ref 290] h = some (.inl (some (.int 0)), h1.sl 290 0 v.toInt64) := by
  rw [dM_of (Nat.le_of_ble_eq_true rfl)]
  simp -implicitDefEqProofs only [D_22_0, k_22_0, D_22_13, k_22_13, D_22_16, k_22_16, D_22_18, k_22_18, R_22, v_aload_n, g_iconst, v_iload_n, v_callV2, aft_v, aft_n, g_i2l, v_lastore, inJ_0, g_goto, g_ireturn, entL, getL, setL, kL_i, kL_r, isI_s, isR_s, isJ_s, gV_s, iV_i, cs0, cs1, cs2, cs3, cs4, dn_nil, kd_si, kd_sl, kd_sw, mr_si, mr_sl, mr_sw, ml_si, ml_sw, mi_sl, k, k2, g, inJ_290, ix_0, retX_int]
theorem x_22_0 : PG.2.2.1 22 (exN 0) = some (13, 3) := rfl
theorem w_22_x0 {a0 : Int32} {h h1 : Mm} (k : h.kd 200 = some (.inl 7)) (g : dM PG 160 [.ref 200, .int a0] h = some (.inr (exN 0), h1)) : dM PG 22 [.ref 200, .int a0, .ref 290] h = some (.inl (some (.int 1)), h1) := by
  rw [dM_of (Nat.le_of_ble_eq_true rfl)]
  simp -implicitDefEqProofs only [D_22_0, k_22_0, D_22_13, k_22_13, D_22_16, k_22_16, D_22_18, k_22_18, R_22, v_aload_n, g_iconst, v_iload_n, v_callV2, aft_v, aft_n, g_i2l, v_lastore, inJ_0, g_goto, g_ireturn, entL, getL, setL, kL_i, kL_r, isI_s, isR_s, isJ_s, gV_s, iV_i, cs0, cs1, cs2, cs3, cs4, dn_nil, kd_si, kd_sl, kd_sw, mr_si, mr_sl, mr_sw, ml_si, ml_sw, mi_sl, k, g, aft_c x_22_0, catL, retX_int]
theorem x_22_2 : PG.2.2.1 22 (exN 2) = some (16, 3) := rfl
theorem w_22_x2 {a0 : Int32} {h h1 : Mm} (k : h.kd 200 = some (.inl 7)) (g : dM PG 160 [.ref 200, .int a0] h = some (.inr (exN 2), h1)) : dM PG 22 [.ref 200, .int a0, .ref 290] h = some (.inl (some (.int 2)), h1) := by
  rw [dM_of (Nat.le_of_ble_eq_true rfl)]
  simp -implicitDefEqProofs only [D_22_0, k_22_0, D_22_13, k_22_13, D_22_16, k_22_16, D_22_18, k_22_18, R_22, v_aload_n, g_iconst, v_iload_n, v_callV2, aft_v, aft_n, g_i2l, v_lastore, inJ_0, g_goto, g_ireturn, entL, getL, setL, kL_i, kL_r, isI_s, isR_s, isJ_s, gV_s, iV_i, cs0, cs1, cs2, cs3, cs4, dn_nil, kd_si, kd_sl, kd_sw, mr_si, mr_sl, mr_sw, ml_si, ml_sw, mi_sl, k, g, aft_c x_22_2, catL, retX_int]
theorem R_24 : PG.2.1 24 = (some .int) := rfl
theorem w_24 {a0 : Int32} {v : Int32} {h h1 : Mm} (k : h.kd 200 = some (.inl 7)) (k2 : h1.kd 290 = some (.inr (.long, 1))) (g : dM PG 161 [.ref 200, .int a0] h = some (.inl (some (.int v)), h1)) : dM PG 24 [.ref 200, .int a0, .ref 290] h = some (.inl (some (.int 0)), h1.sl 290 0 v.toInt64) := by
  rw [dM_of (Nat.le_of_ble_eq_true rfl)]
  simp -implicitDefEqProofs only [D_24_0, k_24_0, D_24_13, k_24_13, D_24_16, k_24_16, D_24_18, k_24_18, R_24, v_aload_n, g_iconst, v_iload_n, v_callV2, aft_v, aft_n, g_i2l, v_lastore, inJ_0, g_goto, g_ireturn, entL, getL, setL, kL_i, kL_r, isI_s, isR_s, isJ_s, gV_s, iV_i, cs0, cs1, cs2, cs3, cs4, dn_nil, kd_si, kd_sl, kd_sw, mr_si, mr_sl, mr_sw, ml_si, ml_sw, mi_sl, k, k2, g, inJ_290, ix_0, retX_int]
theorem x_24_0 : PG.2.2.1 24 (exN 0) = some (13, 3) := rfl
theorem w_24_x0 {a0 : Int32} {h h1 : Mm} (k : h.kd 200 = some (.inl 7)) (g : dM PG 161 [.ref 200, .int a0] h = some (.inr (exN 0), h1)) : dM PG 24 [.ref 200, .int a0, .ref 290] h = some (.inl (some (.int 1)), h1) := by
  rw [dM_of (Nat.le_of_ble_eq_true rfl)]
  simp -implicitDefEqProofs only [D_24_0, k_24_0, D_24_13, k_24_13, D_24_16, k_24_16, D_24_18, k_24_18, R_24, v_aload_n, g_iconst, v_iload_n, v_callV2, aft_v, aft_n, g_i2l, v_lastore, inJ_0, g_goto, g_ireturn, entL, getL, setL, kL_i, kL_r, isI_s, isR_s, isJ_s, gV_s, iV_i, cs0, cs1, cs2, cs3, cs4, dn_nil, kd_si, kd_sl, kd_sw, mr_si, mr_sl, mr_sw, ml_si, ml_sw, mi_sl, k, g, aft_c x_24_0, catL, retX_int]
theorem x_24_2 : PG.2.2.1 24 (exN 2) = some (16, 3) := rfl
theorem w_24_x2 {a0 : Int32} {h h1 : Mm} (k : h.kd 200 = some (.inl 7)) (g : dM PG 161 [.ref 200, .int a0] h = some (.inr (exN 2), h1)) : dM PG 24 [.ref 200, .int a0, .ref 290] h = some (.inl (some (.int 2)), h1) := by
  rw [dM_of (Nat.le_of_ble_eq_true rfl)]
  simp -implicitDefEqProofs only [D_24_0, k_24_0, D_24_13, k_24_13, D_24_16, k_24_16, D_24_18, k_24_18, R_24, v_aload_n, g_iconst, v_iload_n, v_callV2, aft_v, aft_n, g_i2l, v_lastore, inJ_0, g_goto, g_ireturn, entL, getL, setL, kL_i, kL_r, isI_s, isR_s, isJ_s, gV_s, iV_i, cs0, cs1, cs2, cs3, cs4, dn_nil, kd_si, kd_sl, kd_sw, mr_si, mr_sl, mr_sw, ml_si, ml_sw, mi_sl, k, g, aft_c x_24_2, catL, retX_int]
theorem R_26 : PG.2.1 26 = (some .int) := rfl
theorem w_26 {a0 a1 a2 a3 : Int32} {v : Int32} {h h1 : Mm} (k : h.kd 200 = some (.inl 7)) (k2 : h1.kd 290 = some (.inr (.long, 1))) (g : dM PG 162 [.ref 200, .int a0, .int a1, .int a2, .int a3] h = some (.inl (some (.int v)), h1)) : dM PG 26 [.ref 200, .int a0, .int a1, .int a2, .int a3, .ref 290] h = some (.inl (some (.int 0)), h1.sl 290 0 v.toInt64) := by
  rw [dM_of (Nat.le_of_ble_eq_true rfl)]
  simp -implicitDefEqProofs only [D_26_0, k_26_0, D_26_19, k_26_19, D_26_23, k_26_23, D_26_27, k_26_27, D_26_29, k_26_29, R_26, v_aload, g_iconst, v_aload_n, v_iload_n, v_iload, v_callV5, aft_v, aft_n, g_i2l, v_lastore, inJ_0, g_goto, g_ireturn, entL, getL, setL, kL_i, kL_r, isI_s, isR_s, isJ_s, gV_s, iV_i, cs0, cs1, cs2, cs3, cs4, dn_nil, kd_si, kd_sl, kd_sw, mr_si, mr_sl, mr_sw, ml_si, ml_sw, mi_sl, k, k2, g, inJ_290, ix_0, retX_int]
theorem x_26_0 : PG.2.2.1 26 (exN 0) = some (19, 6) := rfl
theorem w_26_x0 {a0 a1 a2 a3 : Int32} {h h1 : Mm} (k : h.kd 200 = some (.inl 7)) (g : dM PG 162 [.ref 200, .int a0, .int a1, .int a2, .int a3] h = some (.inr (exN 0), h1)) : dM PG 26 [.ref 200, .int a0, .int a1, .int a2, .int a3, .ref 290] h = some (.inl (some (.int 1)), h1) := by
  rw [dM_of (Nat.le_of_ble_eq_true rfl)]
  simp -implicitDefEqProofs only [D_26_0, k_26_0, D_26_19, k_26_19, D_26_23, k_26_23, D_26_27, k_26_27, D_26_29, k_26_29, R_26, v_aload, g_iconst, v_aload_n, v_iload_n, v_iload, v_callV5, aft_v, aft_n, g_i2l, v_lastore, inJ_0, g_goto, g_ireturn, entL, getL, setL, kL_i, kL_r, isI_s, isR_s, isJ_s, gV_s, iV_i, cs0, cs1, cs2, cs3, cs4, dn_nil, kd_si, kd_sl, kd_sw, mr_si, mr_sl, mr_sw, ml_si, ml_sw, mi_sl, k, g, aft_c x_26_0, catL, retX_int]
theorem x_26_1 : PG.2.2.1 26 (exN 1) = some (23, 6) := rfl
theorem w_26_x1 {a0 a1 a2 a3 : Int32} {h h1 : Mm} (k : h.kd 200 = some (.inl 7)) (g : dM PG 162 [.ref 200, .int a0, .int a1, .int a2, .int a3] h = some (.inr (exN 1), h1)) : dM PG 26 [.ref 200, .int a0, .int a1, .int a2, .int a3, .ref 290] h = some (.inl (some (.int 2)), h1) := by
  rw [dM_of (Nat.le_of_ble_eq_true rfl)]
  simp -implicitDefEqProofs only [D_26_0, k_26_0, D_26_19, k_26_19, D_26_23, k_26_23, D_26_27, k_26_27, D_26_29, k_26_29, R_26, v_aload, g_iconst, v_aload_n, v_iload_n, v_iload, v_callV5, aft_v, aft_n, g_i2l, v_lastore, inJ_0, g_goto, g_ireturn, entL, getL, setL, kL_i, kL_r, isI_s, isR_s, isJ_s, gV_s, iV_i, cs0, cs1, cs2, cs3, cs4, dn_nil, kd_si, kd_sl, kd_sw, mr_si, mr_sl, mr_sw, ml_si, ml_sw, mi_sl, k, g, aft_c x_26_1, catL, retX_int]
theorem x_26_2 : PG.2.2.1 26 (exN 2) = some (27, 6) := rfl
theorem w_26_x2 {a0 a1 a2 a3 : Int32} {h h1 : Mm} (k : h.kd 200 = some (.inl 7)) (g : dM PG 162 [.ref 200, .int a0, .int a1, .int a2, .int a3] h = some (.inr (exN 2), h1)) : dM PG 26 [.ref 200, .int a0, .int a1, .int a2, .int a3, .ref 290] h = some (.inl (some (.int 3)), h1) := by
  rw [dM_of (Nat.le_of_ble_eq_true rfl)]
  simp -implicitDefEqProofs only [D_26_0, k_26_0, D_26_19, k_26_19, D_26_23, k_26_23, D_26_27, k_26_27, D_26_29, k_26_29, R_26, v_aload, g_iconst, v_aload_n, v_iload_n, v_iload, v_callV5, aft_v, aft_n, g_i2l, v_lastore, inJ_0, g_goto, g_ireturn, entL, getL, setL, kL_i, kL_r, isI_s, isR_s, isJ_s, gV_s, iV_i, cs0, cs1, cs2, cs3, cs4, dn_nil, kd_si, kd_sl, kd_sw, mr_si, mr_sl, mr_sw, ml_si, ml_sw, mi_sl, k, g, aft_c x_26_2, catL, retX_int]
theorem R_28 : PG.2.1 28 = (some .int) := rfl
theorem w_28 {a0 a1 : Int32} {v : Int32} {h h1 : Mm} (k : h.kd 200 = some (.inl 7)) (k2 : h1.kd 290 = some (.inr (.long, 1))) (g : dM PG 165 [.ref 200, .int a0, .int a1] h = some (.inl (some (.int v)), h1)) : dM PG 28 [.ref 200, .int a0, .int a1, .ref 290] h = some (.inl (some (.int 0)), h1.sl 290 0 v.toInt64) := by
  rw [dM_of (Nat.le_of_ble_eq_true rfl)]
  simp -implicitDefEqProofs only [D_28_0, k_28_0, D_28_15, k_28_15, D_28_19, k_28_19, D_28_21, k_28_21, R_28, v_aload_n, g_iconst, v_iload_n, v_callV3, aft_v, aft_n, g_i2l, v_lastore, inJ_0, g_goto, g_ireturn, entL, getL, setL, kL_i, kL_r, isI_s, isR_s, isJ_s, gV_s, iV_i, cs0, cs1, cs2, cs3, cs4, dn_nil, kd_si, kd_sl, kd_sw, mr_si, mr_sl, mr_sw, ml_si, ml_sw, mi_sl, k, k2, g, inJ_290, ix_0, retX_int]
theorem x_28_0 : PG.2.2.1 28 (exN 0) = some (15, 4) := rfl
theorem w_28_x0 {a0 a1 : Int32} {h h1 : Mm} (k : h.kd 200 = some (.inl 7)) (g : dM PG 165 [.ref 200, .int a0, .int a1] h = some (.inr (exN 0), h1)) : dM PG 28 [.ref 200, .int a0, .int a1, .ref 290] h = some (.inl (some (.int 1)), h1) := by
  rw [dM_of (Nat.le_of_ble_eq_true rfl)]
  simp -implicitDefEqProofs only [D_28_0, k_28_0, D_28_15, k_28_15, D_28_19, k_28_19, D_28_21, k_28_21, R_28, v_aload_n, g_iconst, v_iload_n, v_callV3, aft_v, aft_n, g_i2l, v_lastore, inJ_0, g_goto, g_ireturn, entL, getL, setL, kL_i, kL_r, isI_s, isR_s, isJ_s, gV_s, iV_i, cs0, cs1, cs2, cs3, cs4, dn_nil, kd_si, kd_sl, kd_sw, mr_si, mr_sl, mr_sw, ml_si, ml_sw, mi_sl, k, g, aft_c x_28_0, catL, retX_int]
theorem x_28_1 : PG.2.2.1 28 (exN 1) = some (19, 4) := rfl
theorem w_28_x1 {a0 a1 : Int32} {h h1 : Mm} (k : h.kd 200 = some (.inl 7)) (g : dM PG 165 [.ref 200, .int a0, .int a1] h = some (.inr (exN 1), h1)) : dM PG 28 [.ref 200, .int a0, .int a1, .ref 290] h = some (.inl (some (.int 2)), h1) := by
  rw [dM_of (Nat.le_of_ble_eq_true rfl)]
  simp -implicitDefEqProofs only [D_28_0, k_28_0, D_28_15, k_28_15, D_28_19, k_28_19, D_28_21, k_28_21, R_28, v_aload_n, g_iconst, v_iload_n, v_callV3, aft_v, aft_n, g_i2l, v_lastore, inJ_0, g_goto, g_ireturn, entL, getL, setL, kL_i, kL_r, isI_s, isR_s, isJ_s, gV_s, iV_i, cs0, cs1, cs2, cs3, cs4, dn_nil, kd_si, kd_sl, kd_sw, mr_si, mr_sl, mr_sw, ml_si, ml_sw, mi_sl, k, g, aft_c x_28_1, catL, retX_int]
theorem R_30 : PG.2.1 30 = (some .int) := rfl
theorem w_30 {a0 a1 : Int32} {v : Int32} {h h1 : Mm} (k : h.kd 200 = some (.inl 7)) (k2 : h1.kd 290 = some (.inr (.long, 1))) (g : dM PG 169 [.ref 200, .int a0, .int a1] h = some (.inl (some (.int v)), h1)) : dM PG 30 [.ref 200, .int a0, .int a1, .ref 290] h = some (.inl (some (.int 0)), h1.sl 290 0 v.toInt64) := by
  rw [dM_of (Nat.le_of_ble_eq_true rfl)]
  simp -implicitDefEqProofs only [D_30_0, k_30_0, D_30_15, k_30_15, D_30_19, k_30_19, D_30_23, k_30_23, D_30_25, k_30_25, R_30, v_aload_n, g_iconst, v_iload_n, v_callV3, aft_v, aft_n, g_i2l, v_lastore, inJ_0, g_goto, g_ireturn, entL, getL, setL, kL_i, kL_r, isI_s, isR_s, isJ_s, gV_s, iV_i, cs0, cs1, cs2, cs3, cs4, dn_nil, kd_si, kd_sl, kd_sw, mr_si, mr_sl, mr_sw, ml_si, ml_sw, mi_sl, k, k2, g, inJ_290, ix_0, retX_int]
theorem x_30_0 : PG.2.2.1 30 (exN 0) = some (15, 4) := rfl
theorem w_30_x0 {a0 a1 : Int32} {h h1 : Mm} (k : h.kd 200 = some (.inl 7)) (g : dM PG 169 [.ref 200, .int a0, .int a1] h = some (.inr (exN 0), h1)) : dM PG 30 [.ref 200, .int a0, .int a1, .ref 290] h = some (.inl (some (.int 1)), h1) := by
  rw [dM_of (Nat.le_of_ble_eq_true rfl)]
  simp -implicitDefEqProofs only [D_30_0, k_30_0, D_30_15, k_30_15, D_30_19, k_30_19, D_30_23, k_30_23, D_30_25, k_30_25, R_30, v_aload_n, g_iconst, v_iload_n, v_callV3, aft_v, aft_n, g_i2l, v_lastore, inJ_0, g_goto, g_ireturn, entL, getL, setL, kL_i, kL_r, isI_s, isR_s, isJ_s, gV_s, iV_i, cs0, cs1, cs2, cs3, cs4, dn_nil, kd_si, kd_sl, kd_sw, mr_si, mr_sl, mr_sw, ml_si, ml_sw, mi_sl, k, g, aft_c x_30_0, catL, retX_int]
theorem x_30_1 : PG.2.2.1 30 (exN 1) = some (19, 4) := rfl
theorem w_30_x1 {a0 a1 : Int32} {h h1 : Mm} (k : h.kd 200 = some (.inl 7)) (g : dM PG 169 [.ref 200, .int a0, .int a1] h = some (.inr (exN 1), h1)) : dM PG 30 [.ref 200, .int a0, .int a1, .ref 290] h = some (.inl (some (.int 2)), h1) := by
  rw [dM_of (Nat.le_of_ble_eq_true rfl)]
  simp -implicitDefEqProofs only [D_30_0, k_30_0, D_30_15, k_30_15, D_30_19, k_30_19, D_30_23, k_30_23, D_30_25, k_30_25, R_30, v_aload_n, g_iconst, v_iload_n, v_callV3, aft_v, aft_n, g_i2l, v_lastore, inJ_0, g_goto, g_ireturn, entL, getL, setL, kL_i, kL_r, isI_s, isR_s, isJ_s, gV_s, iV_i, cs0, cs1, cs2, cs3, cs4, dn_nil, kd_si, kd_sl, kd_sw, mr_si, mr_sl, mr_sw, ml_si, ml_sw, mi_sl, k, g, aft_c x_30_1, catL, retX_int]
theorem x_30_3 : PG.2.2.1 30 (exN 3) = some (23, 4) := rfl
theorem w_30_x3 {a0 a1 : Int32} {h h1 : Mm} (k : h.kd 200 = some (.inl 7)) (g : dM PG 169 [.ref 200, .int a0, .int a1] h = some (.inr (exN 3), h1)) : dM PG 30 [.ref 200, .int a0, .int a1, .ref 290] h = some (.inl (some (.int 3)), h1) := by
  rw [dM_of (Nat.le_of_ble_eq_true rfl)]
  simp -implicitDefEqProofs only [D_30_0, k_30_0, D_30_15, k_30_15, D_30_19, k_30_19, D_30_23, k_30_23, D_30_25, k_30_25, R_30, v_aload_n, g_iconst, v_iload_n, v_callV3, aft_v, aft_n, g_i2l, v_lastore, inJ_0, g_goto, g_ireturn, entL, getL, setL, kL_i, kL_r, isI_s, isR_s, isJ_s, gV_s, iV_i, cs0, cs1, cs2, cs3, cs4, dn_nil, kd_si, kd_sl, kd_sw, mr_si, mr_sl, mr_sw, ml_si, ml_sw, mi_sl, k, g, aft_c x_30_3, catL, retX_int]
theorem R_32 : PG.2.1 32 = (some .int) := rfl
theorem w_32 {a0 : Int32} {v : Int32} {h h1 : Mm} (k : h.kd 200 = some (.inl 7)) (k2 : h1.kd 290 = some (.inr (.long, 1))) (g : dM PG 174 [.ref 200, .int a0] h = some (.inl (some (.int v)), h1)) : dM PG 32 [.ref 200, .int a0, .ref 290] h = some (.inl (some (.int 0)), h1.sl 290 0 v.toInt64) := by
  rw [dM_of (Nat.le_of_ble_eq_true rfl)]
  simp -implicitDefEqProofs only [D_32_0, k_32_0, D_32_13, k_32_13, D_32_16, k_32_16, D_32_18, k_32_18, R_32, v_aload_n, g_iconst, v_iload_n, v_callV2, aft_v, aft_n, g_i2l, v_lastore, inJ_0, g_goto, g_ireturn, entL, getL, setL, kL_i, kL_r, isI_s, isR_s, isJ_s, gV_s, iV_i, cs0, cs1, cs2, cs3, cs4, dn_nil, kd_si, kd_sl, kd_sw, mr_si, mr_sl, mr_sw, ml_si, ml_sw, mi_sl, k, k2, g, inJ_290, ix_0, retX_int]
theorem x_32_0 : PG.2.2.1 32 (exN 0) = some (13, 3) := rfl
theorem w_32_x0 {a0 : Int32} {h h1 : Mm} (k : h.kd 200 = some (.inl 7)) (g : dM PG 174 [.ref 200, .int a0] h = some (.inr (exN 0), h1)) : dM PG 32 [.ref 200, .int a0, .ref 290] h = some (.inl (some (.int 1)), h1) := by
  rw [dM_of (Nat.le_of_ble_eq_true rfl)]
  simp -implicitDefEqProofs only [D_32_0, k_32_0, D_32_13, k_32_13, D_32_16, k_32_16, D_32_18, k_32_18, R_32, v_aload_n, g_iconst, v_iload_n, v_callV2, aft_v, aft_n, g_i2l, v_lastore, inJ_0, g_goto, g_ireturn, entL, getL, setL, kL_i, kL_r, isI_s, isR_s, isJ_s, gV_s, iV_i, cs0, cs1, cs2, cs3, cs4, dn_nil, kd_si, kd_sl, kd_sw, mr_si, mr_sl, mr_sw, ml_si, ml_sw, mi_sl, k, g, aft_c x_32_0, catL, retX_int]
theorem x_32_2 : PG.2.2.1 32 (exN 2) = some (16, 3) := rfl
theorem w_32_x2 {a0 : Int32} {h h1 : Mm} (k : h.kd 200 = some (.inl 7)) (g : dM PG 174 [.ref 200, .int a0] h = some (.inr (exN 2), h1)) : dM PG 32 [.ref 200, .int a0, .ref 290] h = some (.inl (some (.int 2)), h1) := by
  rw [dM_of (Nat.le_of_ble_eq_true rfl)]
  simp -implicitDefEqProofs only [D_32_0, k_32_0, D_32_13, k_32_13, D_32_16, k_32_16, D_32_18, k_32_18, R_32, v_aload_n, g_iconst, v_iload_n, v_callV2, aft_v, aft_n, g_i2l, v_lastore, inJ_0, g_goto, g_ireturn, entL, getL, setL, kL_i, kL_r, isI_s, isR_s, isJ_s, gV_s, iV_i, cs0, cs1, cs2, cs3, cs4, dn_nil, kd_si, kd_sl, kd_sw, mr_si, mr_sl, mr_sw, ml_si, ml_sw, mi_sl, k, g, aft_c x_32_2, catL, retX_int]
theorem R_34 : PG.2.1 34 = (some .int) := rfl
theorem w_34 {v : Int32} {h h1 : Mm} (k : h.kd 200 = some (.inl 7)) (k2 : h1.kd 290 = some (.inr (.long, 1))) (g : dM PG 177 [.ref 200] h = some (.inl (some (.int v)), h1)) : dM PG 34 [.ref 200, .ref 290] h = some (.inl (some (.int 0)), h1.sl 290 0 v.toInt64) := by
  rw [dM_of (Nat.le_of_ble_eq_true rfl)]
  simp -implicitDefEqProofs only [D_34_0, k_34_0, D_34_12, k_34_12, D_34_14, k_34_14, R_34, v_aload_n, g_iconst, v_callV1, aft_v, aft_n, g_i2l, v_lastore, inJ_0, g_goto, g_ireturn, entL, getL, setL, kL_i, kL_r, isI_s, isR_s, isJ_s, gV_s, iV_i, cs0, cs1, cs2, cs3, cs4, dn_nil, kd_si, kd_sl, kd_sw, mr_si, mr_sl, mr_sw, ml_si, ml_sw, mi_sl, k, k2, g, inJ_290, ix_0, retX_int]
theorem x_34_0 : PG.2.2.1 34 (exN 0) = some (12, 2) := rfl
theorem w_34_x0 {h h1 : Mm} (k : h.kd 200 = some (.inl 7)) (g : dM PG 177 [.ref 200] h = some (.inr (exN 0), h1)) : dM PG 34 [.ref 200, .ref 290] h = some (.inl (some (.int 1)), h1) := by
  rw [dM_of (Nat.le_of_ble_eq_true rfl)]
  simp -implicitDefEqProofs only [D_34_0, k_34_0, D_34_12, k_34_12, D_34_14, k_34_14, R_34, v_aload_n, g_iconst, v_callV1, aft_v, aft_n, g_i2l, v_lastore, inJ_0, g_goto, g_ireturn, entL, getL, setL, kL_i, kL_r, isI_s, isR_s, isJ_s, gV_s, iV_i, cs0, cs1, cs2, cs3, cs4, dn_nil, kd_si, kd_sl, kd_sw, mr_si, mr_sl, mr_sw, ml_si, ml_sw, mi_sl, k, g, aft_c x_34_0, catL, retX_int]
theorem R_36 : PG.2.1 36 = (some .int) := rfl
theorem w_36 {a0 a1 a2 : Int32} {v : Int32} {h h1 : Mm} (k : h.kd 200 = some (.inl 7)) (k2 : h1.kd 290 = some (.inr (.long, 1))) (g : dM PG 179 [.ref 200, .int a0, .int a1, .int a2] h = some (.inl (some (.int v)), h1)) : dM PG 36 [.ref 200, .int a0, .int a1, .int a2, .ref 290] h = some (.inl (some (.int 0)), h1.sl 290 0 v.toInt64) := by
  rw [dM_of (Nat.le_of_ble_eq_true rfl)]
  simp -implicitDefEqProofs only [D_36_0, k_36_0, D_36_17, k_36_17, D_36_21, k_36_21, D_36_25, k_36_25, D_36_27, k_36_27, R_36, v_aload, g_iconst, v_aload_n, v_iload_n, v_callV4, aft_v, aft_n, g_i2l, v_lastore, inJ_0, g_goto, g_ireturn, entL, getL, setL, kL_i, kL_r, isI_s, isR_s, isJ_s, gV_s, iV_i, cs0, cs1, cs2, cs3, cs4, dn_nil, kd_si, kd_sl, kd_sw, mr_si, mr_sl, mr_sw, ml_si, ml_sw, mi_sl, k, k2, g, inJ_290, ix_0, retX_int]
theorem x_36_0 : PG.2.2.1 36 (exN 0) = some (17, 5) := rfl
theorem w_36_x0 {a0 a1 a2 : Int32} {h h1 : Mm} (k : h.kd 200 = some (.inl 7)) (g : dM PG 179 [.ref 200, .int a0, .int a1, .int a2] h = some (.inr (exN 0), h1)) : dM PG 36 [.ref 200, .int a0, .int a1, .int a2, .ref 290] h = some (.inl (some (.int 1)), h1) := by
  rw [dM_of (Nat.le_of_ble_eq_true rfl)]
  simp -implicitDefEqProofs only [D_36_0, k_36_0, D_36_17, k_36_17, D_36_21, k_36_21, D_36_25, k_36_25, D_36_27, k_36_27, R_36, v_aload, g_iconst, v_aload_n, v_iload_n, v_callV4, aft_v, aft_n, g_i2l, v_lastore, inJ_0, g_goto, g_ireturn, entL, getL, setL, kL_i, kL_r, isI_s, isR_s, isJ_s, gV_s, iV_i, cs0, cs1, cs2, cs3, cs4, dn_nil, kd_si, kd_sl, kd_sw, mr_si, mr_sl, mr_sw, ml_si, ml_sw, mi_sl, k, g, aft_c x_36_0, catL, retX_int]
theorem x_36_1 : PG.2.2.1 36 (exN 1) = some (21, 5) := rfl
theorem w_36_x1 {a0 a1 a2 : Int32} {h h1 : Mm} (k : h.kd 200 = some (.inl 7)) (g : dM PG 179 [.ref 200, .int a0, .int a1, .int a2] h = some (.inr (exN 1), h1)) : dM PG 36 [.ref 200, .int a0, .int a1, .int a2, .ref 290] h = some (.inl (some (.int 2)), h1) := by
  rw [dM_of (Nat.le_of_ble_eq_true rfl)]
  simp -implicitDefEqProofs only [D_36_0, k_36_0, D_36_17, k_36_17, D_36_21, k_36_21, D_36_25, k_36_25, D_36_27, k_36_27, R_36, v_aload, g_iconst, v_aload_n, v_iload_n, v_callV4, aft_v, aft_n, g_i2l, v_lastore, inJ_0, g_goto, g_ireturn, entL, getL, setL, kL_i, kL_r, isI_s, isR_s, isJ_s, gV_s, iV_i, cs0, cs1, cs2, cs3, cs4, dn_nil, kd_si, kd_sl, kd_sw, mr_si, mr_sl, mr_sw, ml_si, ml_sw, mi_sl, k, g, aft_c x_36_1, catL, retX_int]
theorem x_36_2 : PG.2.2.1 36 (exN 2) = some (25, 5) := rfl
theorem w_36_x2 {a0 a1 a2 : Int32} {h h1 : Mm} (k : h.kd 200 = some (.inl 7)) (g : dM PG 179 [.ref 200, .int a0, .int a1, .int a2] h = some (.inr (exN 2), h1)) : dM PG 36 [.ref 200, .int a0, .int a1, .int a2, .ref 290] h = some (.inl (some (.int 3)), h1) := by
  rw [dM_of (Nat.le_of_ble_eq_true rfl)]
  simp -implicitDefEqProofs only [D_36_0, k_36_0, D_36_17, k_36_17, D_36_21, k_36_21, D_36_25, k_36_25, D_36_27, k_36_27, R_36, v_aload, g_iconst, v_aload_n, v_iload_n, v_callV4, aft_v, aft_n, g_i2l, v_lastore, inJ_0, g_goto, g_ireturn, entL, getL, setL, kL_i, kL_r, isI_s, isR_s, isJ_s, gV_s, iV_i, cs0, cs1, cs2, cs3, cs4, dn_nil, kd_si, kd_sl, kd_sw, mr_si, mr_sl, mr_sw, ml_si, ml_sw, mi_sl, k, g, aft_c x_36_2, catL, retX_int]
theorem R_38 : PG.2.1 38 = (some .int) := rfl
theorem w_38 {a0 a1 : Int32} {v : Int32} {h h1 : Mm} (k : h.kd 200 = some (.inl 7)) (k2 : h1.kd 290 = some (.inr (.long, 1))) (g : dM PG 180 [.ref 200, .int a0, .int a1] h = some (.inl (some (.int v)), h1)) : dM PG 38 [.ref 200, .int a0, .int a1, .ref 290] h = some (.inl (some (.int 0)), h1.sl 290 0 v.toInt64) := by
  rw [dM_of (Nat.le_of_ble_eq_true rfl)]
  simp -implicitDefEqProofs only [D_38_0, k_38_0, D_38_15, k_38_15, D_38_19, k_38_19, D_38_21, k_38_21, R_38, v_aload_n, g_iconst, v_iload_n, v_callV3, aft_v, aft_n, g_i2l, v_lastore, inJ_0, g_goto, g_ireturn, entL, getL, setL, kL_i, kL_r, isI_s, isR_s, isJ_s, gV_s, iV_i, cs0, cs1, cs2, cs3, cs4, dn_nil, kd_si, kd_sl, kd_sw, mr_si, mr_sl, mr_sw, ml_si, ml_sw, mi_sl, k, k2, g, inJ_290, ix_0, retX_int]
theorem x_38_0 : PG.2.2.1 38 (exN 0) = some (15, 4) := rfl
theorem w_38_x0 {a0 a1 : Int32} {h h1 : Mm} (k : h.kd 200 = some (.inl 7)) (g : dM PG 180 [.ref 200, .int a0, .int a1] h = some (.inr (exN 0), h1)) : dM PG 38 [.ref 200, .int a0, .int a1, .ref 290] h = some (.inl (some (.int 1)), h1) := by
  rw [dM_of (Nat.le_of_ble_eq_true rfl)]
  simp -implicitDefEqProofs only [D_38_0, k_38_0, D_38_15, k_38_15, D_38_19, k_38_19, D_38_21, k_38_21, R_38, v_aload_n, g_iconst, v_iload_n, v_callV3, aft_v, aft_n, g_i2l, v_lastore, inJ_0, g_goto, g_ireturn, entL, getL, setL, kL_i, kL_r, isI_s, isR_s, isJ_s, gV_s, iV_i, cs0, cs1, cs2, cs3, cs4, dn_nil, kd_si, kd_sl, kd_sw, mr_si, mr_sl, mr_sw, ml_si, ml_sw, mi_sl, k, g, aft_c x_38_0, catL, retX_int]
theorem x_38_1 : PG.2.2.1 38 (exN 1) = some (19, 4) := rfl
theorem w_38_x1 {a0 a1 : Int32} {h h1 : Mm} (k : h.kd 200 = some (.inl 7)) (g : dM PG 180 [.ref 200, .int a0, .int a1] h = some (.inr (exN 1), h1)) : dM PG 38 [.ref 200, .int a0, .int a1, .ref 290] h = some (.inl (some (.int 2)), h1) := by
  rw [dM_of (Nat.le_of_ble_eq_true rfl)]
  simp -implicitDefEqProofs only [D_38_0, k_38_0, D_38_15, k_38_15, D_38_19, k_38_19, D_38_21, k_38_21, R_38, v_aload_n, g_iconst, v_iload_n, v_callV3, aft_v, aft_n, g_i2l, v_lastore, inJ_0, g_goto, g_ireturn, entL, getL, setL, kL_i, kL_r, isI_s, isR_s, isJ_s, gV_s, iV_i, cs0, cs1, cs2, cs3, cs4, dn_nil, kd_si, kd_sl, kd_sw, mr_si, mr_sl, mr_sw, ml_si, ml_sw, mi_sl, k, g, aft_c x_38_1, catL, retX_int]
theorem R_40 : PG.2.1 40 = (some .int) := rfl
theorem w_40 {a0 : Int32} {v : Int32} {h h1 : Mm} (k : h.kd 200 = some (.inl 7)) (k2 : h1.kd 290 = some (.inr (.long, 1))) (g : dM PG 181 [.ref 200, .int a0] h = some (.inl (some (.int v)), h1)) : dM PG 40 [.ref 200, .int a0, .ref 290] h = some (.inl (some (.int 0)), h1.sl 290 0 v.toInt64) := by
  rw [dM_of (Nat.le_of_ble_eq_true rfl)]
  simp -implicitDefEqProofs only [D_40_0, k_40_0, D_40_13, k_40_13, D_40_16, k_40_16, D_40_18, k_40_18, R_40, v_aload_n, g_iconst, v_iload_n, v_callV2, aft_v, aft_n, g_i2l, v_lastore, inJ_0, g_goto, g_ireturn, entL, getL, setL, kL_i, kL_r, isI_s, isR_s, isJ_s, gV_s, iV_i, cs0, cs1, cs2, cs3, cs4, dn_nil, kd_si, kd_sl, kd_sw, mr_si, mr_sl, mr_sw, ml_si, ml_sw, mi_sl, k, k2, g, inJ_290, ix_0, retX_int]
theorem x_40_0 : PG.2.2.1 40 (exN 0) = some (13, 3) := rfl
theorem w_40_x0 {a0 : Int32} {h h1 : Mm} (k : h.kd 200 = some (.inl 7)) (g : dM PG 181 [.ref 200, .int a0] h = some (.inr (exN 0), h1)) : dM PG 40 [.ref 200, .int a0, .ref 290] h = some (.inl (some (.int 1)), h1) := by
  rw [dM_of (Nat.le_of_ble_eq_true rfl)]
  simp -implicitDefEqProofs only [D_40_0, k_40_0, D_40_13, k_40_13, D_40_16, k_40_16, D_40_18, k_40_18, R_40, v_aload_n, g_iconst, v_iload_n, v_callV2, aft_v, aft_n, g_i2l, v_lastore, inJ_0, g_goto, g_ireturn, entL, getL, setL, kL_i, kL_r, isI_s, isR_s, isJ_s, gV_s, iV_i, cs0, cs1, cs2, cs3, cs4, dn_nil, kd_si, kd_sl, kd_sw, mr_si, mr_sl, mr_sw, ml_si, ml_sw, mi_sl, k, g, aft_c x_40_0, catL, retX_int]
theorem x_40_2 : PG.2.2.1 40 (exN 2) = some (16, 3) := rfl
theorem w_40_x2 {a0 : Int32} {h h1 : Mm} (k : h.kd 200 = some (.inl 7)) (g : dM PG 181 [.ref 200, .int a0] h = some (.inr (exN 2), h1)) : dM PG 40 [.ref 200, .int a0, .ref 290] h = some (.inl (some (.int 2)), h1) := by
  rw [dM_of (Nat.le_of_ble_eq_true rfl)]
  simp -implicitDefEqProofs only [D_40_0, k_40_0, D_40_13, k_40_13, D_40_16, k_40_16, D_40_18, k_40_18, R_40, v_aload_n, g_iconst, v_iload_n, v_callV2, aft_v, aft_n, g_i2l, v_lastore, inJ_0, g_goto, g_ireturn, entL, getL, setL, kL_i, kL_r, isI_s, isR_s, isJ_s, gV_s, iV_i, cs0, cs1, cs2, cs3, cs4, dn_nil, kd_si, kd_sl, kd_sw, mr_si, mr_sl, mr_sw, ml_si, ml_sw, mi_sl, k, g, aft_c x_40_2, catL, retX_int]
theorem R_42 : PG.2.1 42 = (some .int) := rfl
theorem w_42 {a0 a1 : Int32} {v : Int32} {h h1 : Mm} (k : h.kd 200 = some (.inl 7)) (k2 : h1.kd 290 = some (.inr (.long, 1))) (g : dM PG 183 [.ref 200, .int a0, .int a1] h = some (.inl (some (.int v)), h1)) : dM PG 42 [.ref 200, .int a0, .int a1, .ref 290] h = some (.inl (some (.int 0)), h1.sl 290 0 v.toInt64) := by
  rw [dM_of (Nat.le_of_ble_eq_true rfl)]
  simp -implicitDefEqProofs only [D_42_0, k_42_0, D_42_15, k_42_15, D_42_19, k_42_19, D_42_21, k_42_21, R_42, v_aload_n, g_iconst, v_iload_n, v_callV3, aft_v, aft_n, g_i2l, v_lastore, inJ_0, g_goto, g_ireturn, entL, getL, setL, kL_i, kL_r, isI_s, isR_s, isJ_s, gV_s, iV_i, cs0, cs1, cs2, cs3, cs4, dn_nil, kd_si, kd_sl, kd_sw, mr_si, mr_sl, mr_sw, ml_si, ml_sw, mi_sl, k, k2, g, inJ_290, ix_0, retX_int]
theorem x_42_0 : PG.2.2.1 42 (exN 0) = some (15, 4) := rfl
theorem w_42_x0 {a0 a1 : Int32} {h h1 : Mm} (k : h.kd 200 = some (.inl 7)) (g : dM PG 183 [.ref 200, .int a0, .int a1] h = some (.inr (exN 0), h1)) : dM PG 42 [.ref 200, .int a0, .int a1, .ref 290] h = some (.inl (some (.int 1)), h1) := by
  rw [dM_of (Nat.le_of_ble_eq_true rfl)]
  simp -implicitDefEqProofs only [D_42_0, k_42_0, D_42_15, k_42_15, D_42_19, k_42_19, D_42_21, k_42_21, R_42, v_aload_n, g_iconst, v_iload_n, v_callV3, aft_v, aft_n, g_i2l, v_lastore, inJ_0, g_goto, g_ireturn, entL, getL, setL, kL_i, kL_r, isI_s, isR_s, isJ_s, gV_s, iV_i, cs0, cs1, cs2, cs3, cs4, dn_nil, kd_si, kd_sl, kd_sw, mr_si, mr_sl, mr_sw, ml_si, ml_sw, mi_sl, k, g, aft_c x_42_0, catL, retX_int]
theorem x_42_2 : PG.2.2.1 42 (exN 2) = some (19, 4) := rfl
theorem w_42_x2 {a0 a1 : Int32} {h h1 : Mm} (k : h.kd 200 = some (.inl 7)) (g : dM PG 183 [.ref 200, .int a0, .int a1] h = some (.inr (exN 2), h1)) : dM PG 42 [.ref 200, .int a0, .int a1, .ref 290] h = some (.inl (some (.int 2)), h1) := by
  rw [dM_of (Nat.le_of_ble_eq_true rfl)]
  simp -implicitDefEqProofs only [D_42_0, k_42_0, D_42_15, k_42_15, D_42_19, k_42_19, D_42_21, k_42_21, R_42, v_aload_n, g_iconst, v_iload_n, v_callV3, aft_v, aft_n, g_i2l, v_lastore, inJ_0, g_goto, g_ireturn, entL, getL, setL, kL_i, kL_r, isI_s, isR_s, isJ_s, gV_s, iV_i, cs0, cs1, cs2, cs3, cs4, dn_nil, kd_si, kd_sl, kd_sw, mr_si, mr_sl, mr_sw, ml_si, ml_sw, mi_sl, k, g, aft_c x_42_2, catL, retX_int]
theorem R_44 : PG.2.1 44 = (some .int) := rfl
theorem w_44 {a0 : Int32} {v : Int32} {h h1 : Mm} (k : h.kd 200 = some (.inl 7)) (k2 : h1.kd 290 = some (.inr (.long, 1))) (g : dM PG 184 [.ref 200, .int a0] h = some (.inl (some (.int v)), h1)) : dM PG 44 [.ref 200, .int a0, .ref 290] h = some (.inl (some (.int 0)), h1.sl 290 0 v.toInt64) := by
  rw [dM_of (Nat.le_of_ble_eq_true rfl)]
  simp -implicitDefEqProofs only [D_44_0, k_44_0, D_44_13, k_44_13, D_44_16, k_44_16, D_44_18, k_44_18, R_44, v_aload_n, g_iconst, v_iload_n, v_callV2, aft_v, aft_n, g_i2l, v_lastore, inJ_0, g_goto, g_ireturn, entL, getL, setL, kL_i, kL_r, isI_s, isR_s, isJ_s, gV_s, iV_i, cs0, cs1, cs2, cs3, cs4, dn_nil, kd_si, kd_sl, kd_sw, mr_si, mr_sl, mr_sw, ml_si, ml_sw, mi_sl, k, k2, g, inJ_290, ix_0, retX_int]
theorem x_44_0 : PG.2.2.1 44 (exN 0) = some (13, 3) := rfl
theorem w_44_x0 {a0 : Int32} {h h1 : Mm} (k : h.kd 200 = some (.inl 7)) (g : dM PG 184 [.ref 200, .int a0] h = some (.inr (exN 0), h1)) : dM PG 44 [.ref 200, .int a0, .ref 290] h = some (.inl (some (.int 1)), h1) := by
  rw [dM_of (Nat.le_of_ble_eq_true rfl)]
  simp -implicitDefEqProofs only [D_44_0, k_44_0, D_44_13, k_44_13, D_44_16, k_44_16, D_44_18, k_44_18, R_44, v_aload_n, g_iconst, v_iload_n, v_callV2, aft_v, aft_n, g_i2l, v_lastore, inJ_0, g_goto, g_ireturn, entL, getL, setL, kL_i, kL_r, isI_s, isR_s, isJ_s, gV_s, iV_i, cs0, cs1, cs2, cs3, cs4, dn_nil, kd_si, kd_sl, kd_sw, mr_si, mr_sl, mr_sw, ml_si, ml_sw, mi_sl, k, g, aft_c x_44_0, catL, retX_int]
theorem x_44_2 : PG.2.2.1 44 (exN 2) = some (16, 3) := rfl
theorem w_44_x2 {a0 : Int32} {h h1 : Mm} (k : h.kd 200 = some (.inl 7)) (g : dM PG 184 [.ref 200, .int a0] h = some (.inr (exN 2), h1)) : dM PG 44 [.ref 200, .int a0, .ref 290] h = some (.inl (some (.int 2)), h1) := by
  rw [dM_of (Nat.le_of_ble_eq_true rfl)]
  simp -implicitDefEqProofs only [D_44_0, k_44_0, D_44_13, k_44_13, D_44_16, k_44_16, D_44_18, k_44_18, R_44, v_aload_n, g_iconst, v_iload_n, v_callV2, aft_v, aft_n, g_i2l, v_lastore, inJ_0, g_goto, g_ireturn, entL, getL, setL, kL_i, kL_r, isI_s, isR_s, isJ_s, gV_s, iV_i, cs0, cs1, cs2, cs3, cs4, dn_nil, kd_si, kd_sl, kd_sw, mr_si, mr_sl, mr_sw, ml_si, ml_sw, mi_sl, k, g, aft_c x_44_2, catL, retX_int]
theorem R_46 : PG.2.1 46 = (some .int) := rfl
theorem w_46 {a0 : Int32} {v : Int32} {h h1 : Mm} (k : h.kd 200 = some (.inl 7)) (k2 : h1.kd 290 = some (.inr (.long, 1))) (g : dM PG 185 [.ref 200, .int a0] h = some (.inl (some (.int v)), h1)) : dM PG 46 [.ref 200, .int a0, .ref 290] h = some (.inl (some (.int 0)), h1.sl 290 0 v.toInt64) := by
  rw [dM_of (Nat.le_of_ble_eq_true rfl)]
  simp -implicitDefEqProofs only [D_46_0, k_46_0, D_46_13, k_46_13, D_46_16, k_46_16, D_46_18, k_46_18, R_46, v_aload_n, g_iconst, v_iload_n, v_callV2, aft_v, aft_n, g_i2l, v_lastore, inJ_0, g_goto, g_ireturn, entL, getL, setL, kL_i, kL_r, isI_s, isR_s, isJ_s, gV_s, iV_i, cs0, cs1, cs2, cs3, cs4, dn_nil, kd_si, kd_sl, kd_sw, mr_si, mr_sl, mr_sw, ml_si, ml_sw, mi_sl, k, k2, g, inJ_290, ix_0, retX_int]
theorem x_46_0 : PG.2.2.1 46 (exN 0) = some (13, 3) := rfl
theorem w_46_x0 {a0 : Int32} {h h1 : Mm} (k : h.kd 200 = some (.inl 7)) (g : dM PG 185 [.ref 200, .int a0] h = some (.inr (exN 0), h1)) : dM PG 46 [.ref 200, .int a0, .ref 290] h = some (.inl (some (.int 1)), h1) := by
  rw [dM_of (Nat.le_of_ble_eq_true rfl)]
  simp -implicitDefEqProofs only [D_46_0, k_46_0, D_46_13, k_46_13, D_46_16, k_46_16, D_46_18, k_46_18, R_46, v_aload_n, g_iconst, v_iload_n, v_callV2, aft_v, aft_n, g_i2l, v_lastore, inJ_0, g_goto, g_ireturn, entL, getL, setL, kL_i, kL_r, isI_s, isR_s, isJ_s, gV_s, iV_i, cs0, cs1, cs2, cs3, cs4, dn_nil, kd_si, kd_sl, kd_sw, mr_si, mr_sl, mr_sw, ml_si, ml_sw, mi_sl, k, g, aft_c x_46_0, catL, retX_int]
theorem x_46_2 : PG.2.2.1 46 (exN 2) = some (16, 3) := rfl
theorem w_46_x2 {a0 : Int32} {h h1 : Mm} (k : h.kd 200 = some (.inl 7)) (g : dM PG 185 [.ref 200, .int a0] h = some (.inr (exN 2), h1)) : dM PG 46 [.ref 200, .int a0, .ref 290] h = some (.inl (some (.int 2)), h1) := by
  rw [dM_of (Nat.le_of_ble_eq_true rfl)]
  simp -implicitDefEqProofs only [D_46_0, k_46_0, D_46_13, k_46_13, D_46_16, k_46_16, D_46_18, k_46_18, R_46, v_aload_n, g_iconst, v_iload_n, v_callV2, aft_v, aft_n, g_i2l, v_lastore, inJ_0, g_goto, g_ireturn, entL, getL, setL, kL_i, kL_r, isI_s, isR_s, isJ_s, gV_s, iV_i, cs0, cs1, cs2, cs3, cs4, dn_nil, kd_si, kd_sl, kd_sw, mr_si, mr_sl, mr_sw, ml_si, ml_sw, mi_sl, k, g, aft_c x_46_2, catL, retX_int]
theorem R_48 : PG.2.1 48 = (some .int) := rfl
theorem w_48 {a0 a1 : Int32} {v : Int32} {h h1 : Mm} (k : h.kd 200 = some (.inl 7)) (k2 : h1.kd 290 = some (.inr (.long, 1))) (g : dM PG 188 [.ref 200, .int a0, .int a1] h = some (.inl (some (.int v)), h1)) : dM PG 48 [.ref 200, .int a0, .int a1, .ref 290] h = some (.inl (some (.int 0)), h1.sl 290 0 v.toInt64) := by
  rw [dM_of (Nat.le_of_ble_eq_true rfl)]
  simp -implicitDefEqProofs only [D_48_0, k_48_0, D_48_15, k_48_15, D_48_19, k_48_19, D_48_23, k_48_23, D_48_25, k_48_25, R_48, v_aload_n, g_iconst, v_iload_n, v_callV3, aft_v, aft_n, g_i2l, v_lastore, inJ_0, g_goto, g_ireturn, entL, getL, setL, kL_i, kL_r, isI_s, isR_s, isJ_s, gV_s, iV_i, cs0, cs1, cs2, cs3, cs4, dn_nil, kd_si, kd_sl, kd_sw, mr_si, mr_sl, mr_sw, ml_si, ml_sw, mi_sl, k, k2, g, inJ_290, ix_0, retX_int]
theorem x_48_0 : PG.2.2.1 48 (exN 0) = some (15, 4) := rfl
theorem w_48_x0 {a0 a1 : Int32} {h h1 : Mm} (k : h.kd 200 = some (.inl 7)) (g : dM PG 188 [.ref 200, .int a0, .int a1] h = some (.inr (exN 0), h1)) : dM PG 48 [.ref 200, .int a0, .int a1, .ref 290] h = some (.inl (some (.int 1)), h1) := by
  rw [dM_of (Nat.le_of_ble_eq_true rfl)]
  simp -implicitDefEqProofs only [D_48_0, k_48_0, D_48_15, k_48_15, D_48_19, k_48_19, D_48_23, k_48_23, D_48_25, k_48_25, R_48, v_aload_n, g_iconst, v_iload_n, v_callV3, aft_v, aft_n, g_i2l, v_lastore, inJ_0, g_goto, g_ireturn, entL, getL, setL, kL_i, kL_r, isI_s, isR_s, isJ_s, gV_s, iV_i, cs0, cs1, cs2, cs3, cs4, dn_nil, kd_si, kd_sl, kd_sw, mr_si, mr_sl, mr_sw, ml_si, ml_sw, mi_sl, k, g, aft_c x_48_0, catL, retX_int]
theorem x_48_1 : PG.2.2.1 48 (exN 1) = some (19, 4) := rfl
theorem w_48_x1 {a0 a1 : Int32} {h h1 : Mm} (k : h.kd 200 = some (.inl 7)) (g : dM PG 188 [.ref 200, .int a0, .int a1] h = some (.inr (exN 1), h1)) : dM PG 48 [.ref 200, .int a0, .int a1, .ref 290] h = some (.inl (some (.int 2)), h1) := by
  rw [dM_of (Nat.le_of_ble_eq_true rfl)]
  simp -implicitDefEqProofs only [D_48_0, k_48_0, D_48_15, k_48_15, D_48_19, k_48_19, D_48_23, k_48_23, D_48_25, k_48_25, R_48, v_aload_n, g_iconst, v_iload_n, v_callV3, aft_v, aft_n, g_i2l, v_lastore, inJ_0, g_goto, g_ireturn, entL, getL, setL, kL_i, kL_r, isI_s, isR_s, isJ_s, gV_s, iV_i, cs0, cs1, cs2, cs3, cs4, dn_nil, kd_si, kd_sl, kd_sw, mr_si, mr_sl, mr_sw, ml_si, ml_sw, mi_sl, k, g, aft_c x_48_1, catL, retX_int]
theorem x_48_2 : PG.2.2.1 48 (exN 2) = some (23, 4) := rfl
theorem w_48_x2 {a0 a1 : Int32} {h h1 : Mm} (k : h.kd 200 = some (.inl 7)) (g : dM PG 188 [.ref 200, .int a0, .int a1] h = some (.inr (exN 2), h1)) : dM PG 48 [.ref 200, .int a0, .int a1, .ref 290] h = some (.inl (some (.int 3)), h1) := by
  rw [dM_of (Nat.le_of_ble_eq_true rfl)]
  simp -implicitDefEqProofs only [D_48_0, k_48_0, D_48_15, k_48_15, D_48_19, k_48_19, D_48_23, k_48_23, D_48_25, k_48_25, R_48, v_aload_n, g_iconst, v_iload_n, v_callV3, aft_v, aft_n, g_i2l, v_lastore, inJ_0, g_goto, g_ireturn, entL, getL, setL, kL_i, kL_r, isI_s, isR_s, isJ_s, gV_s, iV_i, cs0, cs1, cs2, cs3, cs4, dn_nil, kd_si, kd_sl, kd_sw, mr_si, mr_sl, mr_sw, ml_si, ml_sw, mi_sl, k, g, aft_c x_48_2, catL, retX_int]
theorem R_50 : PG.2.1 50 = (some .int) := rfl
theorem w_50 {a0 : Int32} {v : Int32} {h h1 : Mm} (k : h.kd 200 = some (.inl 7)) (k2 : h1.kd 290 = some (.inr (.long, 1))) (g : dM PG 189 [.ref 200, .int a0] h = some (.inl (some (.int v)), h1)) : dM PG 50 [.ref 200, .int a0, .ref 290] h = some (.inl (some (.int 0)), h1.sl 290 0 v.toInt64) := by
  rw [dM_of (Nat.le_of_ble_eq_true rfl)]
  simp -implicitDefEqProofs only [D_50_0, k_50_0, D_50_13, k_50_13, D_50_16, k_50_16, D_50_18, k_50_18, R_50, v_aload_n, g_iconst, v_iload_n, v_callV2, aft_v, aft_n, g_i2l, v_lastore, inJ_0, g_goto, g_ireturn, entL, getL, setL, kL_i, kL_r, isI_s, isR_s, isJ_s, gV_s, iV_i, cs0, cs1, cs2, cs3, cs4, dn_nil, kd_si, kd_sl, kd_sw, mr_si, mr_sl, mr_sw, ml_si, ml_sw, mi_sl, k, k2, g, inJ_290, ix_0, retX_int]
theorem x_50_0 : PG.2.2.1 50 (exN 0) = some (13, 3) := rfl
theorem w_50_x0 {a0 : Int32} {h h1 : Mm} (k : h.kd 200 = some (.inl 7)) (g : dM PG 189 [.ref 200, .int a0] h = some (.inr (exN 0), h1)) : dM PG 50 [.ref 200, .int a0, .ref 290] h = some (.inl (some (.int 1)), h1) := by
  rw [dM_of (Nat.le_of_ble_eq_true rfl)]
  simp -implicitDefEqProofs only [D_50_0, k_50_0, D_50_13, k_50_13, D_50_16, k_50_16, D_50_18, k_50_18, R_50, v_aload_n, g_iconst, v_iload_n, v_callV2, aft_v, aft_n, g_i2l, v_lastore, inJ_0, g_goto, g_ireturn, entL, getL, setL, kL_i, kL_r, isI_s, isR_s, isJ_s, gV_s, iV_i, cs0, cs1, cs2, cs3, cs4, dn_nil, kd_si, kd_sl, kd_sw, mr_si, mr_sl, mr_sw, ml_si, ml_sw, mi_sl, k, g, aft_c x_50_0, catL, retX_int]
theorem x_50_2 : PG.2.2.1 50 (exN 2) = some (16, 3) := rfl
theorem w_50_x2 {a0 : Int32} {h h1 : Mm} (k : h.kd 200 = some (.inl 7)) (g : dM PG 189 [.ref 200, .int a0] h = some (.inr (exN 2), h1)) : dM PG 50 [.ref 200, .int a0, .ref 290] h = some (.inl (some (.int 2)), h1) := by
  rw [dM_of (Nat.le_of_ble_eq_true rfl)]
  simp -implicitDefEqProofs only [D_50_0, k_50_0, D_50_13, k_50_13, D_50_16, k_50_16, D_50_18, k_50_18, R_50, v_aload_n, g_iconst, v_iload_n, v_callV2, aft_v, aft_n, g_i2l, v_lastore, inJ_0, g_goto, g_ireturn, entL, getL, setL, kL_i, kL_r, isI_s, isR_s, isJ_s, gV_s, iV_i, cs0, cs1, cs2, cs3, cs4, dn_nil, kd_si, kd_sl, kd_sw, mr_si, mr_sl, mr_sw, ml_si, ml_sw, mi_sl, k, g, aft_c x_50_2, catL, retX_int]
theorem R_52 : PG.2.1 52 = (some .int) := rfl
theorem w_52 {a0 : Int32} {v : Int32} {h h1 : Mm} (k : h.kd 200 = some (.inl 7)) (k2 : h1.kd 290 = some (.inr (.long, 1))) (g : dM PG 190 [.ref 200, .int a0] h = some (.inl (some (.int v)), h1)) : dM PG 52 [.ref 200, .int a0, .ref 290] h = some (.inl (some (.int 0)), h1.sl 290 0 v.toInt64) := by
  rw [dM_of (Nat.le_of_ble_eq_true rfl)]
  simp -implicitDefEqProofs only [D_52_0, k_52_0, D_52_13, k_52_13, D_52_16, k_52_16, D_52_18, k_52_18, R_52, v_aload_n, g_iconst, v_iload_n, v_callV2, aft_v, aft_n, g_i2l, v_lastore, inJ_0, g_goto, g_ireturn, entL, getL, setL, kL_i, kL_r, isI_s, isR_s, isJ_s, gV_s, iV_i, cs0, cs1, cs2, cs3, cs4, dn_nil, kd_si, kd_sl, kd_sw, mr_si, mr_sl, mr_sw, ml_si, ml_sw, mi_sl, k, k2, g, inJ_290, ix_0, retX_int]
theorem x_52_0 : PG.2.2.1 52 (exN 0) = some (13, 3) := rfl
theorem w_52_x0 {a0 : Int32} {h h1 : Mm} (k : h.kd 200 = some (.inl 7)) (g : dM PG 190 [.ref 200, .int a0] h = some (.inr (exN 0), h1)) : dM PG 52 [.ref 200, .int a0, .ref 290] h = some (.inl (some (.int 1)), h1) := by
  rw [dM_of (Nat.le_of_ble_eq_true rfl)]
  simp -implicitDefEqProofs only [D_52_0, k_52_0, D_52_13, k_52_13, D_52_16, k_52_16, D_52_18, k_52_18, R_52, v_aload_n, g_iconst, v_iload_n, v_callV2, aft_v, aft_n, g_i2l, v_lastore, inJ_0, g_goto, g_ireturn, entL, getL, setL, kL_i, kL_r, isI_s, isR_s, isJ_s, gV_s, iV_i, cs0, cs1, cs2, cs3, cs4, dn_nil, kd_si, kd_sl, kd_sw, mr_si, mr_sl, mr_sw, ml_si, ml_sw, mi_sl, k, g, aft_c x_52_0, catL, retX_int]
theorem x_52_2 : PG.2.2.1 52 (exN 2) = some (16, 3) := rfl
theorem w_52_x2 {a0 : Int32} {h h1 : Mm} (k : h.kd 200 = some (.inl 7)) (g : dM PG 190 [.ref 200, .int a0] h = some (.inr (exN 2), h1)) : dM PG 52 [.ref 200, .int a0, .ref 290] h = some (.inl (some (.int 2)), h1) := by
  rw [dM_of (Nat.le_of_ble_eq_true rfl)]
  simp -implicitDefEqProofs only [D_52_0, k_52_0, D_52_13, k_52_13, D_52_16, k_52_16, D_52_18, k_52_18, R_52, v_aload_n, g_iconst, v_iload_n, v_callV2, aft_v, aft_n, g_i2l, v_lastore, inJ_0, g_goto, g_ireturn, entL, getL, setL, kL_i, kL_r, isI_s, isR_s, isJ_s, gV_s, iV_i, cs0, cs1, cs2, cs3, cs4, dn_nil, kd_si, kd_sl, kd_sw, mr_si, mr_sl, mr_sw, ml_si, ml_sw, mi_sl, k, g, aft_c x_52_2, catL, retX_int]
theorem R_54 : PG.2.1 54 = (some .int) := rfl
theorem w_54 {a0 a1 : Int32} {v : Int32} {h h1 : Mm} (k : h.kd 200 = some (.inl 7)) (k2 : h1.kd 290 = some (.inr (.long, 1))) (g : dM PG 191 [.ref 200, .int a0, .int a1] h = some (.inl (some (.int v)), h1)) : dM PG 54 [.ref 200, .int a0, .int a1, .ref 290] h = some (.inl (some (.int 0)), h1.sl 290 0 v.toInt64) := by
  rw [dM_of (Nat.le_of_ble_eq_true rfl)]
  simp -implicitDefEqProofs only [D_54_0, k_54_0, D_54_15, k_54_15, D_54_19, k_54_19, D_54_21, k_54_21, R_54, v_aload_n, g_iconst, v_iload_n, v_callV3, aft_v, aft_n, g_i2l, v_lastore, inJ_0, g_goto, g_ireturn, entL, getL, setL, kL_i, kL_r, isI_s, isR_s, isJ_s, gV_s, iV_i, cs0, cs1, cs2, cs3, cs4, dn_nil, kd_si, kd_sl, kd_sw, mr_si, mr_sl, mr_sw, ml_si, ml_sw, mi_sl, k, k2, g, inJ_290, ix_0, retX_int]
theorem x_54_0 : PG.2.2.1 54 (exN 0) = some (15, 4) := rfl
theorem w_54_x0 {a0 a1 : Int32} {h h1 : Mm} (k : h.kd 200 = some (.inl 7)) (g : dM PG 191 [.ref 200, .int a0, .int a1] h = some (.inr (exN 0), h1)) : dM PG 54 [.ref 200, .int a0, .int a1, .ref 290] h = some (.inl (some (.int 1)), h1) := by
  rw [dM_of (Nat.le_of_ble_eq_true rfl)]
  simp -implicitDefEqProofs only [D_54_0, k_54_0, D_54_15, k_54_15, D_54_19, k_54_19, D_54_21, k_54_21, R_54, v_aload_n, g_iconst, v_iload_n, v_callV3, aft_v, aft_n, g_i2l, v_lastore, inJ_0, g_goto, g_ireturn, entL, getL, setL, kL_i, kL_r, isI_s, isR_s, isJ_s, gV_s, iV_i, cs0, cs1, cs2, cs3, cs4, dn_nil, kd_si, kd_sl, kd_sw, mr_si, mr_sl, mr_sw, ml_si, ml_sw, mi_sl, k, g, aft_c x_54_0, catL, retX_int]
theorem x_54_1 : PG.2.2.1 54 (exN 1) = some (19, 4) := rfl
theorem w_54_x1 {a0 a1 : Int32} {h h1 : Mm} (k : h.kd 200 = some (.inl 7)) (g : dM PG 191 [.ref 200, .int a0, .int a1] h = some (.inr (exN 1), h1)) : dM PG 54 [.ref 200, .int a0, .int a1, .ref 290] h = some (.inl (some (.int 2)), h1) := by
  rw [dM_of (Nat.le_of_ble_eq_true rfl)]
  simp -implicitDefEqProofs only [D_54_0, k_54_0, D_54_15, k_54_15, D_54_19, k_54_19, D_54_21, k_54_21, R_54, v_aload_n, g_iconst, v_iload_n, v_callV3, aft_v, aft_n, g_i2l, v_lastore, inJ_0, g_goto, g_ireturn, entL, getL, setL, kL_i, kL_r, isI_s, isR_s, isJ_s, gV_s, iV_i, cs0, cs1, cs2, cs3, cs4, dn_nil, kd_si, kd_sl, kd_sw, mr_si, mr_sl, mr_sw, ml_si, ml_sw, mi_sl, k, g, aft_c x_54_1, catL, retX_int]
theorem R_56 : PG.2.1 56 = (some .int) := rfl
theorem w_56 {a0 : Int32} {v : Int32} {h h1 : Mm} (k : h.kd 200 = some (.inl 7)) (k2 : h1.kd 290 = some (.inr (.long, 1))) (g : dM PG 193 [.ref 200, .int a0] h = some (.inl (some (.int v)), h1)) : dM PG 56 [.ref 200, .int a0, .ref 290] h = some (.inl (some (.int 0)), h1.sl 290 0 v.toInt64) := by
  rw [dM_of (Nat.le_of_ble_eq_true rfl)]
  simp -implicitDefEqProofs only [D_56_0, k_56_0, D_56_13, k_56_13, D_56_16, k_56_16, D_56_18, k_56_18, R_56, v_aload_n, g_iconst, v_iload_n, v_callV2, aft_v, aft_n, g_i2l, v_lastore, inJ_0, g_goto, g_ireturn, entL, getL, setL, kL_i, kL_r, isI_s, isR_s, isJ_s, gV_s, iV_i, cs0, cs1, cs2, cs3, cs4, dn_nil, kd_si, kd_sl, kd_sw, mr_si, mr_sl, mr_sw, ml_si, ml_sw, mi_sl, k, k2, g, inJ_290, ix_0, retX_int]
theorem x_56_0 : PG.2.2.1 56 (exN 0) = some (13, 3) := rfl
theorem w_56_x0 {a0 : Int32} {h h1 : Mm} (k : h.kd 200 = some (.inl 7)) (g : dM PG 193 [.ref 200, .int a0] h = some (.inr (exN 0), h1)) : dM PG 56 [.ref 200, .int a0, .ref 290] h = some (.inl (some (.int 1)), h1) := by
  rw [dM_of (Nat.le_of_ble_eq_true rfl)]
  simp -implicitDefEqProofs only [D_56_0, k_56_0, D_56_13, k_56_13, D_56_16, k_56_16, D_56_18, k_56_18, R_56, v_aload_n, g_iconst, v_iload_n, v_callV2, aft_v, aft_n, g_i2l, v_lastore, inJ_0, g_goto, g_ireturn, entL, getL, setL, kL_i, kL_r, isI_s, isR_s, isJ_s, gV_s, iV_i, cs0, cs1, cs2, cs3, cs4, dn_nil, kd_si, kd_sl, kd_sw, mr_si, mr_sl, mr_sw, ml_si, ml_sw, mi_sl, k, g, aft_c x_56_0, catL, retX_int]
theorem x_56_1 : PG.2.2.1 56 (exN 1) = some (16, 3) := rfl
theorem w_56_x1 {a0 : Int32} {h h1 : Mm} (k : h.kd 200 = some (.inl 7)) (g : dM PG 193 [.ref 200, .int a0] h = some (.inr (exN 1), h1)) : dM PG 56 [.ref 200, .int a0, .ref 290] h = some (.inl (some (.int 2)), h1) := by
  rw [dM_of (Nat.le_of_ble_eq_true rfl)]
  simp -implicitDefEqProofs only [D_56_0, k_56_0, D_56_13, k_56_13, D_56_16, k_56_16, D_56_18, k_56_18, R_56, v_aload_n, g_iconst, v_iload_n, v_callV2, aft_v, aft_n, g_i2l, v_lastore, inJ_0, g_goto, g_ireturn, entL, getL, setL, kL_i, kL_r, isI_s, isR_s, isJ_s, gV_s, iV_i, cs0, cs1, cs2, cs3, cs4, dn_nil, kd_si, kd_sl, kd_sw, mr_si, mr_sl, mr_sw, ml_si, ml_sw, mi_sl, k, g, aft_c x_56_1, catL, retX_int]
theorem R_58 : PG.2.1 58 = (some .int) := rfl
theorem w_58 {a0 : Int32} {v : Int32} {h h1 : Mm} (k : h.kd 200 = some (.inl 7)) (k2 : h1.kd 290 = some (.inr (.long, 1))) (g : dM PG 194 [.ref 200, .int a0] h = some (.inl (some (.int v)), h1)) : dM PG 58 [.ref 200, .int a0, .ref 290] h = some (.inl (some (.int 0)), h1.sl 290 0 v.toInt64) := by
  rw [dM_of (Nat.le_of_ble_eq_true rfl)]
  simp -implicitDefEqProofs only [D_58_0, k_58_0, D_58_13, k_58_13, D_58_16, k_58_16, D_58_18, k_58_18, R_58, v_aload_n, g_iconst, v_iload_n, v_callV2, aft_v, aft_n, g_i2l, v_lastore, inJ_0, g_goto, g_ireturn, entL, getL, setL, kL_i, kL_r, isI_s, isR_s, isJ_s, gV_s, iV_i, cs0, cs1, cs2, cs3, cs4, dn_nil, kd_si, kd_sl, kd_sw, mr_si, mr_sl, mr_sw, ml_si, ml_sw, mi_sl, k, k2, g, inJ_290, ix_0, retX_int]
theorem x_58_0 : PG.2.2.1 58 (exN 0) = some (13, 3) := rfl
theorem w_58_x0 {a0 : Int32} {h h1 : Mm} (k : h.kd 200 = some (.inl 7)) (g : dM PG 194 [.ref 200, .int a0] h = some (.inr (exN 0), h1)) : dM PG 58 [.ref 200, .int a0, .ref 290] h = some (.inl (some (.int 1)), h1) := by
  rw [dM_of (Nat.le_of_ble_eq_true rfl)]
  simp -implicitDefEqProofs only [D_58_0, k_58_0, D_58_13, k_58_13, D_58_16, k_58_16, D_58_18, k_58_18, R_58, v_aload_n, g_iconst, v_iload_n, v_callV2, aft_v, aft_n, g_i2l, v_lastore, inJ_0, g_goto, g_ireturn, entL, getL, setL, kL_i, kL_r, isI_s, isR_s, isJ_s, gV_s, iV_i, cs0, cs1, cs2, cs3, cs4, dn_nil, kd_si, kd_sl, kd_sw, mr_si, mr_sl, mr_sw, ml_si, ml_sw, mi_sl, k, g, aft_c x_58_0, catL, retX_int]
theorem x_58_1 : PG.2.2.1 58 (exN 1) = some (16, 3) := rfl
theorem w_58_x1 {a0 : Int32} {h h1 : Mm} (k : h.kd 200 = some (.inl 7)) (g : dM PG 194 [.ref 200, .int a0] h = some (.inr (exN 1), h1)) : dM PG 58 [.ref 200, .int a0, .ref 290] h = some (.inl (some (.int 2)), h1) := by
  rw [dM_of (Nat.le_of_ble_eq_true rfl)]
  simp -implicitDefEqProofs only [D_58_0, k_58_0, D_58_13, k_58_13, D_58_16, k_58_16, D_58_18, k_58_18, R_58, v_aload_n, g_iconst, v_iload_n, v_callV2, aft_v, aft_n, g_i2l, v_lastore, inJ_0, g_goto, g_ireturn, entL, getL, setL, kL_i, kL_r, isI_s, isR_s, isJ_s, gV_s, iV_i, cs0, cs1, cs2, cs3, cs4, dn_nil, kd_si, kd_sl, kd_sw, mr_si, mr_sl, mr_sw, ml_si, ml_sw, mi_sl, k, g, aft_c x_58_1, catL, retX_int]
theorem R_60 : PG.2.1 60 = (some .int) := rfl
theorem w_60 {a0 : Int32} {v : Int32} {h h1 : Mm} (k : h.kd 200 = some (.inl 7)) (k2 : h1.kd 290 = some (.inr (.long, 1))) (g : dM PG 195 [.ref 200, .int a0] h = some (.inl (some (.int v)), h1)) : dM PG 60 [.ref 200, .int a0, .ref 290] h = some (.inl (some (.int 0)), h1.sl 290 0 v.toInt64) := by
  rw [dM_of (Nat.le_of_ble_eq_true rfl)]
  simp -implicitDefEqProofs only [D_60_0, k_60_0, D_60_13, k_60_13, D_60_16, k_60_16, D_60_18, k_60_18, R_60, v_aload_n, g_iconst, v_iload_n, v_callV2, aft_v, aft_n, g_i2l, v_lastore, inJ_0, g_goto, g_ireturn, entL, getL, setL, kL_i, kL_r, isI_s, isR_s, isJ_s, gV_s, iV_i, cs0, cs1, cs2, cs3, cs4, dn_nil, kd_si, kd_sl, kd_sw, mr_si, mr_sl, mr_sw, ml_si, ml_sw, mi_sl, k, k2, g, inJ_290, ix_0, retX_int]
theorem x_60_0 : PG.2.2.1 60 (exN 0) = some (13, 3) := rfl
theorem w_60_x0 {a0 : Int32} {h h1 : Mm} (k : h.kd 200 = some (.inl 7)) (g : dM PG 195 [.ref 200, .int a0] h = some (.inr (exN 0), h1)) : dM PG 60 [.ref 200, .int a0, .ref 290] h = some (.inl (some (.int 1)), h1) := by
  rw [dM_of (Nat.le_of_ble_eq_true rfl)]
  simp -implicitDefEqProofs only [D_60_0, k_60_0, D_60_13, k_60_13, D_60_16, k_60_16, D_60_18, k_60_18, R_60, v_aload_n, g_iconst, v_iload_n, v_callV2, aft_v, aft_n, g_i2l, v_lastore, inJ_0, g_goto, g_ireturn, entL, getL, setL, kL_i, kL_r, isI_s, isR_s, isJ_s, gV_s, iV_i, cs0, cs1, cs2, cs3, cs4, dn_nil, kd_si, kd_sl, kd_sw, mr_si, mr_sl, mr_sw, ml_si, ml_sw, mi_sl, k, g, aft_c x_60_0, catL, retX_int]
theorem x_60_1 : PG.2.2.1 60 (exN 1) = some (16, 3) := rfl
theorem w_60_x1 {a0 : Int32} {h h1 : Mm} (k : h.kd 200 = some (.inl 7)) (g : dM PG 195 [.ref 200, .int a0] h = some (.inr (exN 1), h1)) : dM PG 60 [.ref 200, .int a0, .ref 290] h = some (.inl (some (.int 2)), h1) := by
  rw [dM_of (Nat.le_of_ble_eq_true rfl)]
  simp -implicitDefEqProofs only [D_60_0, k_60_0, D_60_13, k_60_13, D_60_16, k_60_16, D_60_18, k_60_18, R_60, v_aload_n, g_iconst, v_iload_n, v_callV2, aft_v, aft_n, g_i2l, v_lastore, inJ_0, g_goto, g_ireturn, entL, getL, setL, kL_i, kL_r, isI_s, isR_s, isJ_s, gV_s, iV_i, cs0, cs1, cs2, cs3, cs4, dn_nil, kd_si, kd_sl, kd_sw, mr_si, mr_sl, mr_sw, ml_si, ml_sw, mi_sl, k, g, aft_c x_60_1, catL, retX_int]
theorem R_62 : PG.2.1 62 = (some .int) := rfl
theorem w_62 {a0 : Int32} {v : Int32} {h h1 : Mm} (k : h.kd 200 = some (.inl 7)) (k2 : h1.kd 290 = some (.inr (.long, 1))) (g : dM PG 197 [.ref 200, .int a0] h = some (.inl (some (.int v)), h1)) : dM PG 62 [.ref 200, .int a0, .ref 290] h = some (.inl (some (.int 0)), h1.sl 290 0 v.toInt64) := by
  rw [dM_of (Nat.le_of_ble_eq_true rfl)]
  simp -implicitDefEqProofs only [D_62_0, k_62_0, D_62_13, k_62_13, D_62_16, k_62_16, D_62_18, k_62_18, R_62, v_aload_n, g_iconst, v_iload_n, v_callV2, aft_v, aft_n, g_i2l, v_lastore, inJ_0, g_goto, g_ireturn, entL, getL, setL, kL_i, kL_r, isI_s, isR_s, isJ_s, gV_s, iV_i, cs0, cs1, cs2, cs3, cs4, dn_nil, kd_si, kd_sl, kd_sw, mr_si, mr_sl, mr_sw, ml_si, ml_sw, mi_sl, k, k2, g, inJ_290, ix_0, retX_int]
theorem x_62_0 : PG.2.2.1 62 (exN 0) = some (13, 3) := rfl
theorem w_62_x0 {a0 : Int32} {h h1 : Mm} (k : h.kd 200 = some (.inl 7)) (g : dM PG 197 [.ref 200, .int a0] h = some (.inr (exN 0), h1)) : dM PG 62 [.ref 200, .int a0, .ref 290] h = some (.inl (some (.int 1)), h1) := by
  rw [dM_of (Nat.le_of_ble_eq_true rfl)]
  simp -implicitDefEqProofs only [D_62_0, k_62_0, D_62_13, k_62_13, D_62_16, k_62_16, D_62_18, k_62_18, R_62, v_aload_n, g_iconst, v_iload_n, v_callV2, aft_v, aft_n, g_i2l, v_lastore, inJ_0, g_goto, g_ireturn, entL, getL, setL, kL_i, kL_r, isI_s, isR_s, isJ_s, gV_s, iV_i, cs0, cs1, cs2, cs3, cs4, dn_nil, kd_si, kd_sl, kd_sw, mr_si, mr_sl, mr_sw, ml_si, ml_sw, mi_sl, k, g, aft_c x_62_0, catL, retX_int]
theorem x_62_1 : PG.2.2.1 62 (exN 1) = some (16, 3) := rfl
theorem w_62_x1 {a0 : Int32} {h h1 : Mm} (k : h.kd 200 = some (.inl 7)) (g : dM PG 197 [.ref 200, .int a0] h = some (.inr (exN 1), h1)) : dM PG 62 [.ref 200, .int a0, .ref 290] h = some (.inl (some (.int 2)), h1) := by
  rw [dM_of (Nat.le_of_ble_eq_true rfl)]
  simp -implicitDefEqProofs only [D_62_0, k_62_0, D_62_13, k_62_13, D_62_16, k_62_16, D_62_18, k_62_18, R_62, v_aload_n, g_iconst, v_iload_n, v_callV2, aft_v, aft_n, g_i2l, v_lastore, inJ_0, g_goto, g_ireturn, entL, getL, setL, kL_i, kL_r, isI_s, isR_s, isJ_s, gV_s, iV_i, cs0, cs1, cs2, cs3, cs4, dn_nil, kd_si, kd_sl, kd_sw, mr_si, mr_sl, mr_sw, ml_si, ml_sw, mi_sl, k, g, aft_c x_62_1, catL, retX_int]
theorem R_64 : PG.2.1 64 = (some .int) := rfl
theorem w_64 {a0 : Int32} {v : Int32} {h h1 : Mm} (k : h.kd 200 = some (.inl 7)) (k2 : h1.kd 290 = some (.inr (.long, 1))) (g : dM PG 198 [.ref 200, .int a0] h = some (.inl (some (.int v)), h1)) : dM PG 64 [.ref 200, .int a0, .ref 290] h = some (.inl (some (.int 0)), h1.sl 290 0 v.toInt64) := by
  rw [dM_of (Nat.le_of_ble_eq_true rfl)]
  simp -implicitDefEqProofs only [D_64_0, k_64_0, D_64_13, k_64_13, D_64_16, k_64_16, D_64_18, k_64_18, R_64, v_aload_n, g_iconst, v_iload_n, v_callV2, aft_v, aft_n, g_i2l, v_lastore, inJ_0, g_goto, g_ireturn, entL, getL, setL, kL_i, kL_r, isI_s, isR_s, isJ_s, gV_s, iV_i, cs0, cs1, cs2, cs3, cs4, dn_nil, kd_si, kd_sl, kd_sw, mr_si, mr_sl, mr_sw, ml_si, ml_sw, mi_sl, k, k2, g, inJ_290, ix_0, retX_int]
theorem x_64_0 : PG.2.2.1 64 (exN 0) = some (13, 3) := rfl
theorem w_64_x0 {a0 : Int32} {h h1 : Mm} (k : h.kd 200 = some (.inl 7)) (g : dM PG 198 [.ref 200, .int a0] h = some (.inr (exN 0), h1)) : dM PG 64 [.ref 200, .int a0, .ref 290] h = some (.inl (some (.int 1)), h1) := by
  rw [dM_of (Nat.le_of_ble_eq_true rfl)]
  simp -implicitDefEqProofs only [D_64_0, k_64_0, D_64_13, k_64_13, D_64_16, k_64_16, D_64_18, k_64_18, R_64, v_aload_n, g_iconst, v_iload_n, v_callV2, aft_v, aft_n, g_i2l, v_lastore, inJ_0, g_goto, g_ireturn, entL, getL, setL, kL_i, kL_r, isI_s, isR_s, isJ_s, gV_s, iV_i, cs0, cs1, cs2, cs3, cs4, dn_nil, kd_si, kd_sl, kd_sw, mr_si, mr_sl, mr_sw, ml_si, ml_sw, mi_sl, k, g, aft_c x_64_0, catL, retX_int]
theorem x_64_1 : PG.2.2.1 64 (exN 1) = some (16, 3) := rfl
theorem w_64_x1 {a0 : Int32} {h h1 : Mm} (k : h.kd 200 = some (.inl 7)) (g : dM PG 198 [.ref 200, .int a0] h = some (.inr (exN 1), h1)) : dM PG 64 [.ref 200, .int a0, .ref 290] h = some (.inl (some (.int 2)), h1) := by
  rw [dM_of (Nat.le_of_ble_eq_true rfl)]
  simp -implicitDefEqProofs only [D_64_0, k_64_0, D_64_13, k_64_13, D_64_16, k_64_16, D_64_18, k_64_18, R_64, v_aload_n, g_iconst, v_iload_n, v_callV2, aft_v, aft_n, g_i2l, v_lastore, inJ_0, g_goto, g_ireturn, entL, getL, setL, kL_i, kL_r, isI_s, isR_s, isJ_s, gV_s, iV_i, cs0, cs1, cs2, cs3, cs4, dn_nil, kd_si, kd_sl, kd_sw, mr_si, mr_sl, mr_sw, ml_si, ml_sw, mi_sl, k, g, aft_c x_64_1, catL, retX_int]
theorem R_66 : PG.2.1 66 = (some .int) := rfl
theorem w_66 {a0 : Int32} {v : Int32} {h h1 : Mm} (k : h.kd 200 = some (.inl 7)) (k2 : h1.kd 290 = some (.inr (.long, 1))) (g : dM PG 199 [.ref 200, .int a0] h = some (.inl (some (.int v)), h1)) : dM PG 66 [.ref 200, .int a0, .ref 290] h = some (.inl (some (.int 0)), h1.sl 290 0 v.toInt64) := by
  rw [dM_of (Nat.le_of_ble_eq_true rfl)]
  simp -implicitDefEqProofs only [D_66_0, k_66_0, D_66_13, k_66_13, D_66_16, k_66_16, D_66_18, k_66_18, R_66, v_aload_n, g_iconst, v_iload_n, v_callV2, aft_v, aft_n, g_i2l, v_lastore, inJ_0, g_goto, g_ireturn, entL, getL, setL, kL_i, kL_r, isI_s, isR_s, isJ_s, gV_s, iV_i, cs0, cs1, cs2, cs3, cs4, dn_nil, kd_si, kd_sl, kd_sw, mr_si, mr_sl, mr_sw, ml_si, ml_sw, mi_sl, k, k2, g, inJ_290, ix_0, retX_int]
theorem x_66_0 : PG.2.2.1 66 (exN 0) = some (13, 3) := rfl
theorem w_66_x0 {a0 : Int32} {h h1 : Mm} (k : h.kd 200 = some (.inl 7)) (g : dM PG 199 [.ref 200, .int a0] h = some (.inr (exN 0), h1)) : dM PG 66 [.ref 200, .int a0, .ref 290] h = some (.inl (some (.int 1)), h1) := by
  rw [dM_of (Nat.le_of_ble_eq_true rfl)]
  simp -implicitDefEqProofs only [D_66_0, k_66_0, D_66_13, k_66_13, D_66_16, k_66_16, D_66_18, k_66_18, R_66, v_aload_n, g_iconst, v_iload_n, v_callV2, aft_v, aft_n, g_i2l, v_lastore, inJ_0, g_goto, g_ireturn, entL, getL, setL, kL_i, kL_r, isI_s, isR_s, isJ_s, gV_s, iV_i, cs0, cs1, cs2, cs3, cs4, dn_nil, kd_si, kd_sl, kd_sw, mr_si, mr_sl, mr_sw, ml_si, ml_sw, mi_sl, k, g, aft_c x_66_0, catL, retX_int]
theorem x_66_1 : PG.2.2.1 66 (exN 1) = some (16, 3) := rfl
theorem w_66_x1 {a0 : Int32} {h h1 : Mm} (k : h.kd 200 = some (.inl 7)) (g : dM PG 199 [.ref 200, .int a0] h = some (.inr (exN 1), h1)) : dM PG 66 [.ref 200, .int a0, .ref 290] h = some (.inl (some (.int 2)), h1) := by
  rw [dM_of (Nat.le_of_ble_eq_true rfl)]
  simp -implicitDefEqProofs only [D_66_0, k_66_0, D_66_13, k_66_13, D_66_16, k_66_16, D_66_18, k_66_18, R_66, v_aload_n, g_iconst, v_iload_n, v_callV2, aft_v, aft_n, g_i2l, v_lastore, inJ_0, g_goto, g_ireturn, entL, getL, setL, kL_i, kL_r, isI_s, isR_s, isJ_s, gV_s, iV_i, cs0, cs1, cs2, cs3, cs4, dn_nil, kd_si, kd_sl, kd_sw, mr_si, mr_sl, mr_sw, ml_si, ml_sw, mi_sl, k, g, aft_c x_66_1, catL, retX_int]
theorem R_70 : PG.2.1 70 = (some .int) := rfl
theorem w_70 {v : Int32} {h h1 : Mm} (k : h.kd 200 = some (.inl 7)) (k2 : h1.kd 290 = some (.inr (.long, 1))) (g : dM PG 202 [.ref 200] h = some (.inl (some (.int v)), h1)) : dM PG 70 [.ref 200, .ref 290] h = some (.inl (some (.int 0)), h1.sl 290 0 v.toInt64) := by
  rw [dM_of (Nat.le_of_ble_eq_true rfl)]
  simp -implicitDefEqProofs only [D_70_0, k_70_0, D_70_12, k_70_12, D_70_14, k_70_14, R_70, v_aload_n, g_iconst, v_callV1, aft_v, aft_n, g_i2l, v_lastore, inJ_0, g_goto, g_ireturn, entL, getL, setL, kL_i, kL_r, isI_s, isR_s, isJ_s, gV_s, iV_i, cs0, cs1, cs2, cs3, cs4, dn_nil, kd_si, kd_sl, kd_sw, mr_si, mr_sl, mr_sw, ml_si, ml_sw, mi_sl, k, k2, g, inJ_290, ix_0, retX_int]
theorem x_70_0 : PG.2.2.1 70 (exN 0) = some (12, 2) := rfl
theorem w_70_x0 {h h1 : Mm} (k : h.kd 200 = some (.inl 7)) (g : dM PG 202 [.ref 200] h = some (.inr (exN 0), h1)) : dM PG 70 [.ref 200, .ref 290] h = some (.inl (some (.int 1)), h1) := by
  rw [dM_of (Nat.le_of_ble_eq_true rfl)]
  simp -implicitDefEqProofs only [D_70_0, k_70_0, D_70_12, k_70_12, D_70_14, k_70_14, R_70, v_aload_n, g_iconst, v_callV1, aft_v, aft_n, g_i2l, v_lastore, inJ_0, g_goto, g_ireturn, entL, getL, setL, kL_i, kL_r, isI_s, isR_s, isJ_s, gV_s, iV_i, cs0, cs1, cs2, cs3, cs4, dn_nil, kd_si, kd_sl, kd_sw, mr_si, mr_sl, mr_sw, ml_si, ml_sw, mi_sl, k, g, aft_c x_70_0, catL, retX_int]
theorem R_72 : PG.2.1 72 = (some .int) := rfl
theorem w_72_0 {a0 : Int32} {h h1 : Mm} (k : h.kd 200 = some (.inl 7)) (k2 : h1.kd 290 = some (.inr (.long, 1))) (g : dM PG 203 [.ref 200, .int a0] h = some (.inl (some (.int 0)), h1)) : dM PG 72 [.ref 200, .int a0, .ref 290] h = some (.inl (some (.int 0)), h1.sl 290 0 0) := by
  rw [dM_of (Nat.le_of_ble_eq_true rfl)]
  simp -implicitDefEqProofs only [D_72_0, k_72_0, D_72_14, k_72_14, D_72_15, k_72_15, D_72_20, k_72_20, D_72_23, k_72_23, D_72_25, k_72_25, R_72, v_aload_n, g_iconst, v_iload_n, v_callV2, aft_v, aft_n, g_if_eq, g_lconst, g_goto, v_lastore, inJ_0, g_ireturn, entL, getL, setL, kL_i, kL_r, isI_s, isR_s, isJ_s, gV_s, iV_i, cs0, cs1, cs2, cs3, cs4, dn_nil, kd_si, kd_sl, kd_sw, mr_si, mr_sl, mr_sw, ml_si, ml_sw, mi_sl, k, k2, g, ↓if_true, if_true, ↓if_neg z_1, if_neg z_1, inJ_290, ix_0, retX_int]
theorem w_72_1 {a0 : Int32} {h h1 : Mm} (k : h.kd 200 = some (.inl 7)) (k2 : h1.kd 290 = some (.inr (.long, 1))) (g : dM PG 203 [.ref 200, .int a0] h = some (.inl (some (.int 1)), h1)) : dM PG 72 [.ref 200, .int a0, .ref 290] h = some (.inl (some (.int 0)), h1.sl 290 0 1) := by
  rw [dM_of (Nat.le_of_ble_eq_true rfl)]
  simp -implicitDefEqProofs only [D_72_0, k_72_0, D_72_14, k_72_14, D_72_15, k_72_15, D_72_20, k_72_20, D_72_23, k_72_23, D_72_25, k_72_25, R_72, v_aload_n, g_iconst, v_iload_n, v_callV2, aft_v, aft_n, g_if_eq, g_lconst, g_goto, v_lastore, inJ_0, g_ireturn, entL, getL, setL, kL_i, kL_r, isI_s, isR_s, isJ_s, gV_s, iV_i, cs0, cs1, cs2, cs3, cs4, dn_nil, kd_si, kd_sl, kd_sw, mr_si, mr_sl, mr_sw, ml_si, ml_sw, mi_sl, k, k2, g, ↓if_true, if_true, ↓if_neg z_1, if_neg z_1, inJ_290, ix_0, retX_int]
theorem x_72_0 : PG.2.2.1 72 (exN 0) = some (20, 3) := rfl
theorem w_72_x0 {a0 : Int32} {h h1 : Mm} (k : h.kd 200 = some (.inl 7)) (g : dM PG 203 [.ref 200, .int a0] h = some (.inr (exN 0), h1)) : dM PG 72 [.ref 200, .int a0, .ref 290] h = some (.inl (some (.int 1)), h1) := by
  rw [dM_of (Nat.le_of_ble_eq_true rfl)]
  simp -implicitDefEqProofs only [D_72_0, k_72_0, D_72_14, k_72_14, D_72_15, k_72_15, D_72_20, k_72_20, D_72_23, k_72_23, D_72_25, k_72_25, R_72, v_aload_n, g_iconst, v_iload_n, v_callV2, aft_v, aft_n, g_if_eq, g_lconst, g_goto, v_lastore, inJ_0, g_ireturn, entL, getL, setL, kL_i, kL_r, isI_s, isR_s, isJ_s, gV_s, iV_i, cs0, cs1, cs2, cs3, cs4, dn_nil, kd_si, kd_sl, kd_sw, mr_si, mr_sl, mr_sw, ml_si, ml_sw, mi_sl, k, g, aft_c x_72_0, catL, retX_int]
theorem x_72_2 : PG.2.2.1 72 (exN 2) = some (23, 3) := rfl
theorem w_72_x2 {a0 : Int32} {h h1 : Mm} (k : h.kd 200 = some (.inl 7)) (g : dM PG 203 [.ref 200, .int a0] h = some (.inr (exN 2), h1)) : dM PG 72 [.ref 200, .int a0, .ref 290] h = some (.inl (some (.int 2)), h1) := by
  rw [dM_of (Nat.le_of_ble_eq_true rfl)]
  simp -implicitDefEqProofs only [D_72_0, k_72_0, D_72_14, k_72_14, D_72_15, k_72_15, D_72_20, k_72_20, D_72_23, k_72_23, D_72_25, k_72_25, R_72, v_aload_n, g_iconst, v_iload_n, v_callV2, aft_v, aft_n, g_if_eq, g_lconst, g_goto, v_lastore, inJ_0, g_ireturn, entL, getL, setL, kL_i, kL_r, isI_s, isR_s, isJ_s, gV_s, iV_i, cs0, cs1, cs2, cs3, cs4, dn_nil, kd_si, kd_sl, kd_sw, mr_si, mr_sl, mr_sw, ml_si, ml_sw, mi_sl, k, g, aft_c x_72_2, catL, retX_int]
theorem R_78 : PG.2.1 78 = (some .int) := rfl
theorem w_78 {a0 : Int32} {v : Int32} {h h1 : Mm} (k : h.kd 200 = some (.inl 7)) (k2 : h1.kd 290 = some (.inr (.long, 1))) (g : dM PG 205 [.ref 200, .int a0] h = some (.inl (some (.int v)), h1)) : dM PG 78 [.ref 200, .int a0, .ref 290] h = some (.inl (some (.int 0)), h1.sl 290 0 v.toInt64) := by
  rw [dM_of (Nat.le_of_ble_eq_true rfl)]
  simp -implicitDefEqProofs only [D_78_0, k_78_0, D_78_13, k_78_13, D_78_16, k_78_16, D_78_18, k_78_18, R_78, v_aload_n, g_iconst, v_iload_n, v_callV2, aft_v, aft_n, g_i2l, v_lastore, inJ_0, g_goto, g_ireturn, entL, getL, setL, kL_i, kL_r, isI_s, isR_s, isJ_s, gV_s, iV_i, cs0, cs1, cs2, cs3, cs4, dn_nil, kd_si, kd_sl, kd_sw, mr_si, mr_sl, mr_sw, ml_si, ml_sw, mi_sl, k, k2, g, inJ_290, ix_0, retX_int]
theorem x_78_0 : PG.2.2.1 78 (exN 0) = some (13, 3) := rfl
theorem w_78_x0 {a0 : Int32} {h h1 : Mm} (k : h.kd 200 = some (.inl 7)) (g : dM PG 205 [.ref 200, .int a0] h = some (.inr (exN 0), h1)) : dM PG 78 [.ref 200, .int a0, .ref 290] h = some (.inl (some (.int 1)), h1) := by
  rw [dM_of (Nat.le_of_ble_eq_true rfl)]
  simp -implicitDefEqProofs only [D_78_0, k_78_0, D_78_13, k_78_13, D_78_16, k_78_16, D_78_18, k_78_18, R_78, v_aload_n, g_iconst, v_iload_n, v_callV2, aft_v, aft_n, g_i2l, v_lastore, inJ_0, g_goto, g_ireturn, entL, getL, setL, kL_i, kL_r, isI_s, isR_s, isJ_s, gV_s, iV_i, cs0, cs1, cs2, cs3, cs4, dn_nil, kd_si, kd_sl, kd_sw, mr_si, mr_sl, mr_sw, ml_si, ml_sw, mi_sl, k, g, aft_c x_78_0, catL, retX_int]
theorem x_78_1 : PG.2.2.1 78 (exN 1) = some (16, 3) := rfl
theorem w_78_x1 {a0 : Int32} {h h1 : Mm} (k : h.kd 200 = some (.inl 7)) (g : dM PG 205 [.ref 200, .int a0] h = some (.inr (exN 1), h1)) : dM PG 78 [.ref 200, .int a0, .ref 290] h = some (.inl (some (.int 2)), h1) := by
  rw [dM_of (Nat.le_of_ble_eq_true rfl)]
  simp -implicitDefEqProofs only [D_78_0, k_78_0, D_78_13, k_78_13, D_78_16, k_78_16, D_78_18, k_78_18, R_78, v_aload_n, g_iconst, v_iload_n, v_callV2, aft_v, aft_n, g_i2l, v_lastore, inJ_0, g_goto, g_ireturn, entL, getL, setL, kL_i, kL_r, isI_s, isR_s, isJ_s, gV_s, iV_i, cs0, cs1, cs2, cs3, cs4, dn_nil, kd_si, kd_sl, kd_sw, mr_si, mr_sl, mr_sw, ml_si, ml_sw, mi_sl, k, g, aft_c x_78_1, catL, retX_int]
theorem R_86 : PG.2.1 86 = (some .int) := rfl
theorem w_86 {a0 : Int32} {v : Int32} {h h1 : Mm} (k : h.kd 200 = some (.inl 7)) (k2 : h1.kd 290 = some (.inr (.long, 1))) (g : dM PG 206 [.ref 200, .int a0] h = some (.inl (some (.int v)), h1)) : dM PG 86 [.ref 200, .int a0, .ref 290] h = some (.inl (some (.int 0)), h1.sl 290 0 v.toInt64) := by
  rw [dM_of (Nat.le_of_ble_eq_true rfl)]
  simp -implicitDefEqProofs only [D_86_0, k_86_0, D_86_13, k_86_13, D_86_16, k_86_16, D_86_18, k_86_18, R_86, v_aload_n, g_iconst, v_iload_n, v_callV2, aft_v, aft_n, g_i2l, v_lastore, inJ_0, g_goto, g_ireturn, entL, getL, setL, kL_i, kL_r, isI_s, isR_s, isJ_s, gV_s, iV_i, cs0, cs1, cs2, cs3, cs4, dn_nil, kd_si, kd_sl, kd_sw, mr_si, mr_sl, mr_sw, ml_si, ml_sw, mi_sl, k, k2, g, inJ_290, ix_0, retX_int]
theorem x_86_0 : PG.2.2.1 86 (exN 0) = some (13, 3) := rfl
theorem w_86_x0 {a0 : Int32} {h h1 : Mm} (k : h.kd 200 = some (.inl 7)) (g : dM PG 206 [.ref 200, .int a0] h = some (.inr (exN 0), h1)) : dM PG 86 [.ref 200, .int a0, .ref 290] h = some (.inl (some (.int 1)), h1) := by
  rw [dM_of (Nat.le_of_ble_eq_true rfl)]
  simp -implicitDefEqProofs only [D_86_0, k_86_0, D_86_13, k_86_13, D_86_16, k_86_16, D_86_18, k_86_18, R_86, v_aload_n, g_iconst, v_iload_n, v_callV2, aft_v, aft_n, g_i2l, v_lastore, inJ_0, g_goto, g_ireturn, entL, getL, setL, kL_i, kL_r, isI_s, isR_s, isJ_s, gV_s, iV_i, cs0, cs1, cs2, cs3, cs4, dn_nil, kd_si, kd_sl, kd_sw, mr_si, mr_sl, mr_sw, ml_si, ml_sw, mi_sl, k, g, aft_c x_86_0, catL, retX_int]
theorem x_86_1 : PG.2.2.1 86 (exN 1) = some (16, 3) := rfl
theorem w_86_x1 {a0 : Int32} {h h1 : Mm} (k : h.kd 200 = some (.inl 7)) (g : dM PG 206 [.ref 200, .int a0] h = some (.inr (exN 1), h1)) : dM PG 86 [.ref 200, .int a0, .ref 290] h = some (.inl (some (.int 2)), h1) := by
  rw [dM_of (Nat.le_of_ble_eq_true rfl)]
  simp -implicitDefEqProofs only [D_86_0, k_86_0, D_86_13, k_86_13, D_86_16, k_86_16, D_86_18, k_86_18, R_86, v_aload_n, g_iconst, v_iload_n, v_callV2, aft_v, aft_n, g_i2l, v_lastore, inJ_0, g_goto, g_ireturn, entL, getL, setL, kL_i, kL_r, isI_s, isR_s, isJ_s, gV_s, iV_i, cs0, cs1, cs2, cs3, cs4, dn_nil, kd_si, kd_sl, kd_sw, mr_si, mr_sl, mr_sw, ml_si, ml_sw, mi_sl, k, g, aft_c x_86_1, catL, retX_int]
theorem R_88 : PG.2.1 88 = (some .int) := rfl
theorem w_88 {a0 : Int32} {v : Int32} {h h1 : Mm} (k : h.kd 200 = some (.inl 7)) (k2 : h1.kd 290 = some (.inr (.long, 1))) (g : dM PG 207 [.ref 200, .int a0] h = some (.inl (some (.int v)), h1)) : dM PG 88 [.ref 200, .int a0, .ref 290] h = some (.inl (some (.int 0)), h1.sl 290 0 v.toInt64) := by
  rw [dM_of (Nat.le_of_ble_eq_true rfl)]
  simp -implicitDefEqProofs only [D_88_0, k_88_0, D_88_13, k_88_13, D_88_16, k_88_16, D_88_18, k_88_18, R_88, v_aload_n, g_iconst, v_iload_n, v_callV2, aft_v, aft_n, g_i2l, v_lastore, inJ_0, g_goto, g_ireturn, entL, getL, setL, kL_i, kL_r, isI_s, isR_s, isJ_s, gV_s, iV_i, cs0, cs1, cs2, cs3, cs4, dn_nil, kd_si, kd_sl, kd_sw, mr_si, mr_sl, mr_sw, ml_si, ml_sw, mi_sl, k, k2, g, inJ_290, ix_0, retX_int]
theorem x_88_0 : PG.2.2.1 88 (exN 0) = some (13, 3) := rfl
theorem w_88_x0 {a0 : Int32} {h h1 : Mm} (k : h.kd 200 = some (.inl 7)) (g : dM PG 207 [.ref 200, .int a0] h = some (.inr (exN 0), h1)) : dM PG 88 [.ref 200, .int a0, .ref 290] h = some (.inl (some (.int 1)), h1) := by
  rw [dM_of (Nat.le_of_ble_eq_true rfl)]
  simp -implicitDefEqProofs only [D_88_0, k_88_0, D_88_13, k_88_13, D_88_16, k_88_16, D_88_18, k_88_18, R_88, v_aload_n, g_iconst, v_iload_n, v_callV2, aft_v, aft_n, g_i2l, v_lastore, inJ_0, g_goto, g_ireturn, entL, getL, setL, kL_i, kL_r, isI_s, isR_s, isJ_s, gV_s, iV_i, cs0, cs1, cs2, cs3, cs4, dn_nil, kd_si, kd_sl, kd_sw, mr_si, mr_sl, mr_sw, ml_si, ml_sw, mi_sl, k, g, aft_c x_88_0, catL, retX_int]
theorem x_88_1 : PG.2.2.1 88 (exN 1) = some (16, 3) := rfl
theorem w_88_x1 {a0 : Int32} {h h1 : Mm} (k : h.kd 200 = some (.inl 7)) (g : dM PG 207 [.ref 200, .int a0] h = some (.inr (exN 1), h1)) : dM PG 88 [.ref 200, .int a0, .ref 290] h = some (.inl (some (.int 2)), h1) := by
  rw [dM_of (Nat.le_of_ble_eq_true rfl)]
  simp -implicitDefEqProofs only [D_88_0, k_88_0, D_88_13, k_88_13, D_88_16, k_88_16, D_88_18, k_88_18, R_88, v_aload_n, g_iconst, v_iload_n, v_callV2, aft_v, aft_n, g_i2l, v_lastore, inJ_0, g_goto, g_ireturn, entL, getL, setL, kL_i, kL_r, isI_s, isR_s, isJ_s, gV_s, iV_i, cs0, cs1, cs2, cs3, cs4, dn_nil, kd_si, kd_sl, kd_sw, mr_si, mr_sl, mr_sw, ml_si, ml_sw, mi_sl, k, g, aft_c x_88_1, catL, retX_int]
theorem R_90 : PG.2.1 90 = (some .int) := rfl
theorem w_90 {a0 : Int32} {v : Int32} {h h1 : Mm} (k : h.kd 200 = some (.inl 7)) (k2 : h1.kd 290 = some (.inr (.long, 1))) (g : dM PG 209 [.ref 200, .int a0] h = some (.inl (some (.int v)), h1)) : dM PG 90 [.ref 200, .int a0, .ref 290] h = some (.inl (some (.int 0)), h1.sl 290 0 v.toInt64) := by
  rw [dM_of (Nat.le_of_ble_eq_true rfl)]
  simp -implicitDefEqProofs only [D_90_0, k_90_0, D_90_13, k_90_13, D_90_16, k_90_16, D_90_18, k_90_18, R_90, v_aload_n, g_iconst, v_iload_n, v_callV2, aft_v, aft_n, g_i2l, v_lastore, inJ_0, g_goto, g_ireturn, entL, getL, setL, kL_i, kL_r, isI_s, isR_s, isJ_s, gV_s, iV_i, cs0, cs1, cs2, cs3, cs4, dn_nil, kd_si, kd_sl, kd_sw, mr_si, mr_sl, mr_sw, ml_si, ml_sw, mi_sl, k, k2, g, inJ_290, ix_0, retX_int]
theorem x_90_0 : PG.2.2.1 90 (exN 0) = some (13, 3) := rfl
theorem w_90_x0 {a0 : Int32} {h h1 : Mm} (k : h.kd 200 = some (.inl 7)) (g : dM PG 209 [.ref 200, .int a0] h = some (.inr (exN 0), h1)) : dM PG 90 [.ref 200, .int a0, .ref 290] h = some (.inl (some (.int 1)), h1) := by
  rw [dM_of (Nat.le_of_ble_eq_true rfl)]
  simp -implicitDefEqProofs only [D_90_0, k_90_0, D_90_13, k_90_13, D_90_16, k_90_16, D_90_18, k_90_18, R_90, v_aload_n, g_iconst, v_iload_n, v_callV2, aft_v, aft_n, g_i2l, v_lastore, inJ_0, g_goto, g_ireturn, entL, getL, setL, kL_i, kL_r, isI_s, isR_s, isJ_s, gV_s, iV_i, cs0, cs1, cs2, cs3, cs4, dn_nil, kd_si, kd_sl, kd_sw, mr_si, mr_sl, mr_sw, ml_si, ml_sw, mi_sl, k, g, aft_c x_90_0, catL, retX_int]
theorem x_90_1 : PG.2.2.1 90 (exN 1) = some (16, 3) := rfl
theorem w_90_x1 {a0 : Int32} {h h1 : Mm} (k : h.kd 200 = some (.inl 7)) (g : dM PG 209 [.ref 200, .int a0] h = some (.inr (exN 1), h1)) : dM PG 90 [.ref 200, .int a0, .ref 290] h = some (.inl (some (.int 2)), h1) := by
  rw [dM_of (Nat.le_of_ble_eq_true rfl)]
  simp -implicitDefEqProofs only [D_90_0, k_90_0, D_90_13, k_90_13, D_90_16, k_90_16, D_90_18, k_90_18, R_90, v_aload_n, g_iconst, v_iload_n, v_callV2, aft_v, aft_n, g_i2l, v_lastore, inJ_0, g_goto, g_ireturn, entL, getL, setL, kL_i, kL_r, isI_s, isR_s, isJ_s, gV_s, iV_i, cs0, cs1, cs2, cs3, cs4, dn_nil, kd_si, kd_sl, kd_sw, mr_si, mr_sl, mr_sw, ml_si, ml_sw, mi_sl, k, g, aft_c x_90_1, catL, retX_int]
theorem R_92 : PG.2.1 92 = (some .int) := rfl
theorem w_92 {a0 : Int32} {v : Int32} {h h1 : Mm} (k : h.kd 200 = some (.inl 7)) (k2 : h1.kd 290 = some (.inr (.long, 1))) (g : dM PG 211 [.ref 200, .int a0] h = some (.inl (some (.int v)), h1)) : dM PG 92 [.ref 200, .int a0, .ref 290] h = some (.inl (some (.int 0)), h1.sl 290 0 v.toInt64) := by
  rw [dM_of (Nat.le_of_ble_eq_true rfl)]
  simp -implicitDefEqProofs only [D_92_0, k_92_0, D_92_13, k_92_13, D_92_16, k_92_16, D_92_18, k_92_18, R_92, v_aload_n, g_iconst, v_iload_n, v_callV2, aft_v, aft_n, g_i2l, v_lastore, inJ_0, g_goto, g_ireturn, entL, getL, setL, kL_i, kL_r, isI_s, isR_s, isJ_s, gV_s, iV_i, cs0, cs1, cs2, cs3, cs4, dn_nil, kd_si, kd_sl, kd_sw, mr_si, mr_sl, mr_sw, ml_si, ml_sw, mi_sl, k, k2, g, inJ_290, ix_0, retX_int]
theorem x_92_0 : PG.2.2.1 92 (exN 0) = some (13, 3) := rfl
theorem w_92_x0 {a0 : Int32} {h h1 : Mm} (k : h.kd 200 = some (.inl 7)) (g : dM PG 211 [.ref 200, .int a0] h = some (.inr (exN 0), h1)) : dM PG 92 [.ref 200, .int a0, .ref 290] h = some (.inl (some (.int 1)), h1) := by
  rw [dM_of (Nat.le_of_ble_eq_true rfl)]
  simp -implicitDefEqProofs only [D_92_0, k_92_0, D_92_13, k_92_13, D_92_16, k_92_16, D_92_18, k_92_18, R_92, v_aload_n, g_iconst, v_iload_n, v_callV2, aft_v, aft_n, g_i2l, v_lastore, inJ_0, g_goto, g_ireturn, entL, getL, setL, kL_i, kL_r, isI_s, isR_s, isJ_s, gV_s, iV_i, cs0, cs1, cs2, cs3, cs4, dn_nil, kd_si, kd_sl, kd_sw, mr_si, mr_sl, mr_sw, ml_si, ml_sw, mi_sl, k, g, aft_c x_92_0, catL, retX_int]
theorem x_92_1 : PG.2.2.1 92 (exN 1) = some (16, 3) := rfl
theorem w_92_x1 {a0 : Int32} {h h1 : Mm} (k : h.kd 200 = some (.inl 7)) (g : dM PG 211 [.ref 200, .int a0] h = some (.inr (exN 1), h1)) : dM PG 92 [.ref 200, .int a0, .ref 290] h = some (.inl (some (.int 2)), h1) := by
  rw [dM_of (Nat.le_of_ble_eq_true rfl)]
  simp -implicitDefEqProofs only [D_92_0, k_92_0, D_92_13, k_92_13, D_92_16, k_92_16, D_92_18, k_92_18, R_92, v_aload_n, g_iconst, v_iload_n, v_callV2, aft_v, aft_n, g_i2l, v_lastore, inJ_0, g_goto, g_ireturn, entL, getL, setL, kL_i, kL_r, isI_s, isR_s, isJ_s, gV_s, iV_i, cs0, cs1, cs2, cs3, cs4, dn_nil, kd_si, kd_sl, kd_sw, mr_si, mr_sl, mr_sw, ml_si, ml_sw, mi_sl, k, g, aft_c x_92_1, catL, retX_int]
theorem R_94 : PG.2.1 94 = (some .int) := rfl
theorem w_94 {a0 : Int32} {v : Int32} {h h1 : Mm} (k : h.kd 200 = some (.inl 7)) (k2 : h1.kd 290 = some (.inr (.long, 1))) (g : dM PG 212 [.ref 200, .int a0] h = some (.inl (some (.int v)), h1)) : dM PG 94 [.ref 200, .int a0, .ref 290] h = some (.inl (some (.int 0)), h1.sl 290 0 v.toInt64) := by
  rw [dM_of (Nat.le_of_ble_eq_true rfl)]
  simp -implicitDefEqProofs only [D_94_0, k_94_0, D_94_13, k_94_13, D_94_16, k_94_16, D_94_18, k_94_18, R_94, v_aload_n, g_iconst, v_iload_n, v_callV2, aft_v, aft_n, g_i2l, v_lastore, inJ_0, g_goto, g_ireturn, entL, getL, setL, kL_i, kL_r, isI_s, isR_s, isJ_s, gV_s, iV_i, cs0, cs1, cs2, cs3, cs4, dn_nil, kd_si, kd_sl, kd_sw, mr_si, mr_sl, mr_sw, ml_si, ml_sw, mi_sl, k, k2, g, inJ_290, ix_0, retX_int]
theorem x_94_0 : PG.2.2.1 94 (exN 0) = some (13, 3) := rfl
theorem w_94_x0 {a0 : Int32} {h h1 : Mm} (k : h.kd 200 = some (.inl 7)) (g : dM PG 212 [.ref 200, .int a0] h = some (.inr (exN 0), h1)) : dM PG 94 [.ref 200, .int a0, .ref 290] h = some (.inl (some (.int 1)), h1) := by
  rw [dM_of (Nat.le_of_ble_eq_true rfl)]
  simp -implicitDefEqProofs only [D_94_0, k_94_0, D_94_13, k_94_13, D_94_16, k_94_16, D_94_18, k_94_18, R_94, v_aload_n, g_iconst, v_iload_n, v_callV2, aft_v, aft_n, g_i2l, v_lastore, inJ_0, g_goto, g_ireturn, entL, getL, setL, kL_i, kL_r, isI_s, isR_s, isJ_s, gV_s, iV_i, cs0, cs1, cs2, cs3, cs4, dn_nil, kd_si, kd_sl, kd_sw, mr_si, mr_sl, mr_sw, ml_si, ml_sw, mi_sl, k, g, aft_c x_94_0, catL, retX_int]
theorem x_94_1 : PG.2.2.1 94 (exN 1) = some (16, 3) := rfl
theorem w_94_x1 {a0 : Int32} {h h1 : Mm} (k : h.kd 200 = some (.inl 7)) (g : dM PG 212 [.ref 200, .int a0] h = some (.inr (exN 1), h1)) : dM PG 94 [.ref 200, .int a0, .ref 290] h = some (.inl (some (.int 2)), h1) := by
  rw [dM_of (Nat.le_of_ble_eq_true rfl)]
  simp -implicitDefEqProofs only [D_94_0, k_94_0, D_94_13, k_94_13, D_94_16, k_94_16, D_94_18, k_94_18, R_94, v_aload_n, g_iconst, v_iload_n, v_callV2, aft_v, aft_n, g_i2l, v_lastore, inJ_0, g_goto, g_ireturn, entL, getL, setL, kL_i, kL_r, isI_s, isR_s, isJ_s, gV_s, iV_i, cs0, cs1, cs2, cs3, cs4, dn_nil, kd_si, kd_sl, kd_sw, mr_si, mr_sl, mr_sw, ml_si, ml_sw, mi_sl, k, g, aft_c x_94_1, catL, retX_int]
theorem R_96 : PG.2.1 96 = (some .int) := rfl
theorem w_96 {a0 : Int32} {v : Int32} {h h1 : Mm} (k : h.kd 200 = some (.inl 7)) (k2 : h1.kd 290 = some (.inr (.long, 1))) (g : dM PG 213 [.ref 200, .int a0] h = some (.inl (some (.int v)), h1)) : dM PG 96 [.ref 200, .int a0, .ref 290] h = some (.inl (some (.int 0)), h1.sl 290 0 v.toInt64) := by
  rw [dM_of (Nat.le_of_ble_eq_true rfl)]
  simp -implicitDefEqProofs only [D_96_0, k_96_0, D_96_13, k_96_13, D_96_16, k_96_16, D_96_18, k_96_18, R_96, v_aload_n, g_iconst, v_iload_n, v_callV2, aft_v, aft_n, g_i2l, v_lastore, inJ_0, g_goto, g_ireturn, entL, getL, setL, kL_i, kL_r, isI_s, isR_s, isJ_s, gV_s, iV_i, cs0, cs1, cs2, cs3, cs4, dn_nil, kd_si, kd_sl, kd_sw, mr_si, mr_sl, mr_sw, ml_si, ml_sw, mi_sl, k, k2, g, inJ_290, ix_0, retX_int]
theorem x_96_0 : PG.2.2.1 96 (exN 0) = some (13, 3) := rfl
theorem w_96_x0 {a0 : Int32} {h h1 : Mm} (k : h.kd 200 = some (.inl 7)) (g : dM PG 213 [.ref 200, .int a0] h = some (.inr (exN 0), h1)) : dM PG 96 [.ref 200, .int a0, .ref 290] h = some (.inl (some (.int 1)), h1) := by
  rw [dM_of (Nat.le_of_ble_eq_true rfl)]
  simp -implicitDefEqProofs only [D_96_0, k_96_0, D_96_13, k_96_13, D_96_16, k_96_16, D_96_18, k_96_18, R_96, v_aload_n, g_iconst, v_iload_n, v_callV2, aft_v, aft_n, g_i2l, v_lastore, inJ_0, g_goto, g_ireturn, entL, getL, setL, kL_i, kL_r, isI_s, isR_s, isJ_s, gV_s, iV_i, cs0, cs1, cs2, cs3, cs4, dn_nil, kd_si, kd_sl, kd_sw, mr_si, mr_sl, mr_sw, ml_si, ml_sw, mi_sl, k, g, aft_c x_96_0, catL, retX_int]
theorem x_96_1 : PG.2.2.1 96 (exN 1) = some (16, 3) := rfl
theorem w_96_x1 {a0 : Int32} {h h1 : Mm} (k : h.kd 200 = some (.inl 7)) (g : dM PG 213 [.ref 200, .int a0] h = some (.inr (exN 1), h1)) : dM PG 96 [.ref 200, .int a0, .ref 290] h = some (.inl (some (.int 2)), h1) := by
  rw [dM_of (Nat.le_of_ble_eq_true rfl)]
  simp -implicitDefEqProofs only [D_96_0, k_96_0, D_96_13, k_96_13, D_96_16, k_96_16, D_96_18, k_96_18, R_96, v_aload_n, g_iconst, v_iload_n, v_callV2, aft_v, aft_n, g_i2l, v_lastore, inJ_0, g_goto, g_ireturn, entL, getL, setL, kL_i, kL_r, isI_s, isR_s, isJ_s, gV_s, iV_i, cs0, cs1, cs2, cs3, cs4, dn_nil, kd_si, kd_sl, kd_sw, mr_si, mr_sl, mr_sw, ml_si, ml_sw, mi_sl, k, g, aft_c x_96_1, catL, retX_int]
theorem R_98 : PG.2.1 98 = (some .int) := rfl
theorem w_98 {a0 : Int32} {v : Int32} {h h1 : Mm} (k : h.kd 200 = some (.inl 7)) (k2 : h1.kd 290 = some (.inr (.long, 1))) (g : dM PG 214 [.ref 200, .int a0] h = some (.inl (some (.int v)), h1)) : dM PG 98 [.ref 200, .int a0, .ref 290] h = some (.inl (some (.int 0)), h1.sl 290 0 v.toInt64) := by
  rw [dM_of (Nat.le_of_ble_eq_true rfl)]
  simp -implicitDefEqProofs only [D_98_0, k_98_0, D_98_13, k_98_13, D_98_16, k_98_16, D_98_18, k_98_18, R_98, v_aload_n, g_iconst, v_iload_n, v_callV2, aft_v, aft_n, g_i2l, v_lastore, inJ_0, g_goto, g_ireturn, entL, getL, setL, kL_i, kL_r, isI_s, isR_s, isJ_s, gV_s, iV_i, cs0, cs1, cs2, cs3, cs4, dn_nil, kd_si, kd_sl, kd_sw, mr_si, mr_sl, mr_sw, ml_si, ml_sw, mi_sl, k, k2, g, inJ_290, ix_0, retX_int]
theorem x_98_0 : PG.2.2.1 98 (exN 0) = some (13, 3) := rfl
theorem w_98_x0 {a0 : Int32} {h h1 : Mm} (k : h.kd 200 = some (.inl 7)) (g : dM PG 214 [.ref 200, .int a0] h = some (.inr (exN 0), h1)) : dM PG 98 [.ref 200, .int a0, .ref 290] h = some (.inl (some (.int 1)), h1) := by
  rw [dM_of (Nat.le_of_ble_eq_true rfl)]
  simp -implicitDefEqProofs only [D_98_0, k_98_0, D_98_13, k_98_13, D_98_16, k_98_16, D_98_18, k_98_18, R_98, v_aload_n, g_iconst, v_iload_n, v_callV2, aft_v, aft_n, g_i2l, v_lastore, inJ_0, g_goto, g_ireturn, entL, getL, setL, kL_i, kL_r, isI_s, isR_s, isJ_s, gV_s, iV_i, cs0, cs1, cs2, cs3, cs4, dn_nil, kd_si, kd_sl, kd_sw, mr_si, mr_sl, mr_sw, ml_si, ml_sw, mi_sl, k, g, aft_c x_98_0, catL, retX_int]
theorem x_98_1 : PG.2.2.1 98 (exN 1) = some (16, 3) := rfl
theorem w_98_x1 {a0 : Int32} {h h1 : Mm} (k : h.kd 200 = some (.inl 7)) (g : dM PG 214 [.ref 200, .int a0] h = some (.inr (exN 1), h1)) : dM PG 98 [.ref 200, .int a0, .ref 290] h = some (.inl (some (.int 2)), h1) := by
  rw [dM_of (Nat.le_of_ble_eq_true rfl)]
  simp -implicitDefEqProofs only [D_98_0, k_98_0, D_98_13, k_98_13, D_98_16, k_98_16, D_98_18, k_98_18, R_98, v_aload_n, g_iconst, v_iload_n, v_callV2, aft_v, aft_n, g_i2l, v_lastore, inJ_0, g_goto, g_ireturn, entL, getL, setL, kL_i, kL_r, isI_s, isR_s, isJ_s, gV_s, iV_i, cs0, cs1, cs2, cs3, cs4, dn_nil, kd_si, kd_sl, kd_sw, mr_si, mr_sl, mr_sw, ml_si, ml_sw, mi_sl, k, g, aft_c x_98_1, catL, retX_int]
theorem R_102 : PG.2.1 102 = (some .int) := rfl
theorem w_102 {a0 a1 : Int32} {v : Int32} {h h1 : Mm} (k : h.kd 200 = some (.inl 7)) (k2 : h1.kd 290 = some (.inr (.long, 1))) (g : dM PG 215 [.ref 200, .int a0, .int a1] h = some (.inl (some (.int v)), h1)) : dM PG 102 [.ref 200, .int a0, .int a1, .ref 290] h = some (.inl (some (.int 0)), h1.sl 290 0 v.toInt64) := by
  rw [dM_of (Nat.le_of_ble_eq_true rfl)]
  simp -implicitDefEqProofs only [D_102_0, k_102_0, D_102_15, k_102_15, D_102_19, k_102_19, D_102_21, k_102_21, R_102, v_aload_n, g_iconst, v_iload_n, v_callV3, aft_v, aft_n, g_i2l, v_lastore, inJ_0, g_goto, g_ireturn, entL, getL, setL, kL_i, kL_r, isI_s, isR_s, isJ_s, gV_s, iV_i, cs0, cs1, cs2, cs3, cs4, dn_nil, kd_si, kd_sl, kd_sw, mr_si, mr_sl, mr_sw, ml_si, ml_sw, mi_sl, k, k2, g, inJ_290, ix_0, retX_int]
theorem x_102_0 : PG.2.2.1 102 (exN 0) = some (15, 4) := rfl
theorem w_102_x0 {a0 a1 : Int32} {h h1 : Mm} (k : h.kd 200 = some (.inl 7)) (g : dM PG 215 [.ref 200, .int a0, .int a1] h = some (.inr (exN 0), h1)) : dM PG 102 [.ref 200, .int a0, .int a1, .ref 290] h = some (.inl (some (.int 1)), h1) := by
  rw [dM_of (Nat.le_of_ble_eq_true rfl)]
  simp -implicitDefEqProofs only [D_102_0, k_102_0, D_102_15, k_102_15, D_102_19, k_102_19, D_102_21, k_102_21, R_102, v_aload_n, g_iconst, v_iload_n, v_callV3, aft_v, aft_n, g_i2l, v_lastore, inJ_0, g_goto, g_ireturn, entL, getL, setL, kL_i, kL_r, isI_s, isR_s, isJ_s, gV_s, iV_i, cs0, cs1, cs2, cs3, cs4, dn_nil, kd_si, kd_sl, kd_sw, mr_si, mr_sl, mr_sw, ml_si, ml_sw, mi_sl, k, g, aft_c x_102_0, catL, retX_int]
theorem x_102_1 : PG.2.2.1 102 (exN 1) = some (19, 4) := rfl
theorem w_102_x1 {a0 a1 : Int32} {h h1 : Mm} (k : h.kd 200 = some (.inl 7)) (g : dM PG 215 [.ref 200, .int a0, .int a1] h = some (.inr (exN 1), h1)) : dM PG 102 [.ref 200, .int a0, .int a1, .ref 290] h = some (.inl (some (.int 2)), h1) := by
  rw [dM_of (Nat.le_of_ble_eq_true rfl)]
  simp -implicitDefEqProofs only [D_102_0, k_102_0, D_102_15, k_102_15, D_102_19, k_102_19, D_102_21, k_102_21, R_102, v_aload_n, g_iconst, v_iload_n, v_callV3, aft_v, aft_n, g_i2l, v_lastore, inJ_0, g_goto, g_ireturn, entL, getL, setL, kL_i, kL_r, isI_s, isR_s, isJ_s, gV_s, iV_i, cs0, cs1, cs2, cs3, cs4, dn_nil, kd_si, kd_sl, kd_sw, mr_si, mr_sl, mr_sw, ml_si, ml_sw, mi_sl, k, g, aft_c x_102_1, catL, retX_int]
theorem R_104 : PG.2.1 104 = (some .int) := rfl
theorem w_104 {a0 a1 : Int32} {v : Int32} {h h1 : Mm} (k : h.kd 200 = some (.inl 7)) (k2 : h1.kd 290 = some (.inr (.long, 1))) (g : dM PG 216 [.ref 200, .int a0, .int a1] h = some (.inl (some (.int v)), h1)) : dM PG 104 [.ref 200, .int a0, .int a1, .ref 290] h = some (.inl (some (.int 0)), h1.sl 290 0 v.toInt64) := by
  rw [dM_of (Nat.le_of_ble_eq_true rfl)]
  simp -implicitDefEqProofs only [D_104_0, k_104_0, D_104_15, k_104_15, D_104_19, k_104_19, D_104_21, k_104_21, R_104, v_aload_n, g_iconst, v_iload_n, v_callV3, aft_v, aft_n, g_i2l, v_lastore, inJ_0, g_goto, g_ireturn, entL, getL, setL, kL_i, kL_r, isI_s, isR_s, isJ_s, gV_s, iV_i, cs0, cs1, cs2, cs3, cs4, dn_nil, kd_si, kd_sl, kd_sw, mr_si, mr_sl, mr_sw, ml_si, ml_sw, mi_sl, k, k2, g, inJ_290, ix_0, retX_int]
theorem x_104_0 : PG.2.2.1 104 (exN 0) = some (15, 4) := rfl
theorem w_104_x0 {a0 a1 : Int32} {h h1 : Mm} (k : h.kd 200 = some (.inl 7)) (g : dM PG 216 [.ref 200, .int a0, .int a1] h = some (.inr (exN 0), h1)) : dM PG 104 [.ref 200, .int a0, .int a1, .ref 290] h = some (.inl (some (.int 1)), h1) := by
  rw [dM_of (Nat.le_of_ble_eq_true rfl)]
  simp -implicitDefEqProofs only [D_104_0, k_104_0, D_104_15, k_104_15, D_104_19, k_104_19, D_104_21, k_104_21, R_104, v_aload_n, g_iconst, v_iload_n, v_callV3, aft_v, aft_n, g_i2l, v_lastore, inJ_0, g_goto, g_ireturn, entL, getL, setL, kL_i, kL_r, isI_s, isR_s, isJ_s, gV_s, iV_i, cs0, cs1, cs2, cs3, cs4, dn_nil, kd_si, kd_sl, kd_sw, mr_si, mr_sl, mr_sw, ml_si, ml_sw, mi_sl, k, g, aft_c x_104_0, catL, retX_int]
theorem x_104_1 : PG.2.2.1 104 (exN 1) = some (19, 4) := rfl
theorem w_104_x1 {a0 a1 : Int32} {h h1 : Mm} (k : h.kd 200 = some (.inl 7)) (g : dM PG 216 [.ref 200, .int a0, .int a1] h = some (.inr (exN 1), h1)) : dM PG 104 [.ref 200, .int a0, .int a1, .ref 290] h = some (.inl (some (.int 2)), h1) := by
  rw [dM_of (Nat.le_of_ble_eq_true rfl)]
  simp -implicitDefEqProofs only [D_104_0, k_104_0, D_104_15, k_104_15, D_104_19, k_104_19, D_104_21, k_104_21, R_104, v_aload_n, g_iconst, v_iload_n, v_callV3, aft_v, aft_n, g_i2l, v_lastore, inJ_0, g_goto, g_ireturn, entL, getL, setL, kL_i, kL_r, isI_s, isR_s, isJ_s, gV_s, iV_i, cs0, cs1, cs2, cs3, cs4, dn_nil, kd_si, kd_sl, kd_sw, mr_si, mr_sl, mr_sw, ml_si, ml_sw, mi_sl, k, g, aft_c x_104_1, catL, retX_int]
theorem R_106 : PG.2.1 106 = (some .int) := rfl
theorem w_106 {a0 : Int32} {v : Int32} {h h1 : Mm} (k : h.kd 200 = some (.inl 7)) (k2 : h1.kd 290 = some (.inr (.long, 1))) (g : dM PG 217 [.ref 200, .int a0] h = some (.inl (some (.int v)), h1)) : dM PG 106 [.ref 200, .int a0, .ref 290] h = some (.inl (some (.int 0)), h1.sl 290 0 v.toInt64) := by
  rw [dM_of (Nat.le_of_ble_eq_true rfl)]
  simp -implicitDefEqProofs only [D_106_0, k_106_0, D_106_13, k_106_13, D_106_16, k_106_16, D_106_18, k_106_18, R_106, v_aload_n, g_iconst, v_iload_n, v_callV2, aft_v, aft_n, g_i2l, v_lastore, inJ_0, g_goto, g_ireturn, entL, getL, setL, kL_i, kL_r, isI_s, isR_s, isJ_s, gV_s, iV_i, cs0, cs1, cs2, cs3, cs4, dn_nil, kd_si, kd_sl, kd_sw, mr_si, mr_sl, mr_sw, ml_si, ml_sw, mi_sl, k, k2, g, inJ_290, ix_0, retX_int]
theorem x_106_0 : PG.2.2.1 106 (exN 0) = some (13, 3) := rfl
theorem w_106_x0 {a0 : Int32} {h h1 : Mm} (k : h.kd 200 = some (.inl 7)) (g : dM PG 217 [.ref 200, .int a0] h = some (.inr (exN 0), h1)) : dM PG 106 [.ref 200, .int a0, .ref 290] h = some (.inl (some (.int 1)), h1) := by
  rw [dM_of (Nat.le_of_ble_eq_true rfl)]
  simp -implicitDefEqProofs only [D_106_0, k_106_0, D_106_13, k_106_13, D_106_16, k_106_16, D_106_18, k_106_18, R_106, v_aload_n, g_iconst, v_iload_n, v_callV2, aft_v, aft_n, g_i2l, v_lastore, inJ_0, g_goto, g_ireturn, entL, getL, setL, kL_i, kL_r, isI_s, isR_s, isJ_s, gV_s, iV_i, cs0, cs1, cs2, cs3, cs4, dn_nil, kd_si, kd_sl, kd_sw, mr_si, mr_sl, mr_sw, ml_si, ml_sw, mi_sl, k, g, aft_c x_106_0, catL, retX_int]
theorem x_106_1 : PG.2.2.1 106 (exN 1) = some (16, 3) := rfl
theorem w_106_x1 {a0 : Int32} {h h1 : Mm} (k : h.kd 200 = some (.inl 7)) (g : dM PG 217 [.ref 200, .int a0] h = some (.inr (exN 1), h1)) : dM PG 106 [.ref 200, .int a0, .ref 290] h = some (.inl (some (.int 2)), h1) := by
  rw [dM_of (Nat.le_of_ble_eq_true rfl)]
  simp -implicitDefEqProofs only [D_106_0, k_106_0, D_106_13, k_106_13, D_106_16, k_106_16, D_106_18, k_106_18, R_106, v_aload_n, g_iconst, v_iload_n, v_callV2, aft_v, aft_n, g_i2l, v_lastore, inJ_0, g_goto, g_ireturn, entL, getL, setL, kL_i, kL_r, isI_s, isR_s, isJ_s, gV_s, iV_i, cs0, cs1, cs2, cs3, cs4, dn_nil, kd_si, kd_sl, kd_sw, mr_si, mr_sl, mr_sw, ml_si, ml_sw, mi_sl, k, g, aft_c x_106_1, catL, retX_int]
theorem R_108 : PG.2.1 108 = (some .int) := rfl
theorem w_108 {a0 : Int32} {v : Int32} {h h1 : Mm} (k : h.kd 200 = some (.inl 7)) (k2 : h1.kd 290 = some (.inr (.long, 1))) (g : dM PG 220 [.ref 200, .int a0] h = some (.inl (some (.int v)), h1)) : dM PG 108 [.ref 200, .int a0, .ref 290] h = some (.inl (some (.int 0)), h1.sl 290 0 v.toInt64) := by
  rw [dM_of (Nat.le_of_ble_eq_true rfl)]
  simp -implicitDefEqProofs only [D_108_0, k_108_0, D_108_13, k_108_13, D_108_16, k_108_16, D_108_18, k_108_18, R_108, v_aload_n, g_iconst, v_iload_n, v_callV2, aft_v, aft_n, g_i2l, v_lastore, inJ_0, g_goto, g_ireturn, entL, getL, setL, kL_i, kL_r, isI_s, isR_s, isJ_s, gV_s, iV_i, cs0, cs1, cs2, cs3, cs4, dn_nil, kd_si, kd_sl, kd_sw, mr_si, mr_sl, mr_sw, ml_si, ml_sw, mi_sl, k, k2, g, inJ_290, ix_0, retX_int]
theorem x_108_0 : PG.2.2.1 108 (exN 0) = some (13, 3) := rfl
theorem w_108_x0 {a0 : Int32} {h h1 : Mm} (k : h.kd 200 = some (.inl 7)) (g : dM PG 220 [.ref 200, .int a0] h = some (.inr (exN 0), h1)) : dM PG 108 [.ref 200, .int a0, .ref 290] h = some (.inl (some (.int 1)), h1) := by
  rw [dM_of (Nat.le_of_ble_eq_true rfl)]
  simp -implicitDefEqProofs only [D_108_0, k_108_0, D_108_13, k_108_13, D_108_16, k_108_16, D_108_18, k_108_18, R_108, v_aload_n, g_iconst, v_iload_n, v_callV2, aft_v, aft_n, g_i2l, v_lastore, inJ_0, g_goto, g_ireturn, entL, getL, setL, kL_i, kL_r, isI_s, isR_s, isJ_s, gV_s, iV_i, cs0, cs1, cs2, cs3, cs4, dn_nil, kd_si, kd_sl, kd_sw, mr_si, mr_sl, mr_sw, ml_si, ml_sw, mi_sl, k, g, aft_c x_108_0, catL, retX_int]
theorem x_108_1 : PG.2.2.1 108 (exN 1) = some (16, 3) := rfl
theorem w_108_x1 {a0 : Int32} {h h1 : Mm} (k : h.kd 200 = some (.inl 7)) (g : dM PG 220 [.ref 200, .int a0] h = some (.inr (exN 1), h1)) : dM PG 108 [.ref 200, .int a0, .ref 290] h = some (.inl (some (.int 2)), h1) := by
  rw [dM_of (Nat.le_of_ble_eq_true rfl)]
  simp -implicitDefEqProofs only [D_108_0, k_108_0, D_108_13, k_108_13, D_108_16, k_108_16, D_108_18, k_108_18, R_108, v_aload_n, g_iconst, v_iload_n, v_callV2, aft_v, aft_n, g_i2l, v_lastore, inJ_0, g_goto, g_ireturn, entL, getL, setL, kL_i, kL_r, isI_s, isR_s, isJ_s, gV_s, iV_i, cs0, cs1, cs2, cs3, cs4, dn_nil, kd_si, kd_sl, kd_sw, mr_si, mr_sl, mr_sw, ml_si, ml_sw, mi_sl, k, g, aft_c x_108_1, catL, retX_int]
theorem R_110 : PG.2.1 110 = (some .int) := rfl
theorem w_110 {a0 : Int32} {v : Int32} {h h1 : Mm} (k : h.kd 200 = some (.inl 7)) (k2 : h1.kd 290 = some (.inr (.long, 1))) (g : dM PG 221 [.ref 200, .int a0] h = some (.inl (some (.int v)), h1)) : dM PG 110 [.ref 200, .int a0, .ref 290] h = some (.inl (some (.int 0)), h1.sl 290 0 v.toInt64) := by
  rw [dM_of (Nat.le_of_ble_eq_true rfl)]
  simp -implicitDefEqProofs only [D_110_0, k_110_0, D_110_13, k_110_13, D_110_16, k_110_16, D_110_18, k_110_18, R_110, v_aload_n, g_iconst, v_iload_n, v_callV2, aft_v, aft_n, g_i2l, v_lastore, inJ_0, g_goto, g_ireturn, entL, getL, setL, kL_i, kL_r, isI_s, isR_s, isJ_s, gV_s, iV_i, cs0, cs1, cs2, cs3, cs4, dn_nil, kd_si, kd_sl, kd_sw, mr_si, mr_sl, mr_sw, ml_si, ml_sw, mi_sl, k, k2, g, inJ_290, ix_0, retX_int]
theorem x_110_0 : PG.2.2.1 110 (exN 0) = some (13, 3) := rfl
theorem w_110_x0 {a0 : Int32} {h h1 : Mm} (k : h.kd 200 = some (.inl 7)) (g : dM PG 221 [.ref 200, .int a0] h = some (.inr (exN 0), h1)) : dM PG 110 [.ref 200, .int a0, .ref 290] h = some (.inl (some (.int 1)), h1) := by
  rw [dM_of (Nat.le_of_ble_eq_true rfl)]
  simp -implicitDefEqProofs only [D_110_0, k_110_0, D_110_13, k_110_13, D_110_16, k_110_16, D_110_18, k_110_18, R_110, v_aload_n, g_iconst, v_iload_n, v_callV2, aft_v, aft_n, g_i2l, v_lastore, inJ_0, g_goto, g_ireturn, entL, getL, setL, kL_i, kL_r, isI_s, isR_s, isJ_s, gV_s, iV_i, cs0, cs1, cs2, cs3, cs4, dn_nil, kd_si, kd_sl, kd_sw, mr_si, mr_sl, mr_sw, ml_si, ml_sw, mi_sl, k, g, aft_c x_110_0, catL, retX_int]
theorem x_110_1 : PG.2.2.1 110 (exN 1) = some (16, 3) := rfl
theorem w_110_x1 {a0 : Int32} {h h1 : Mm} (k : h.kd 200 = some (.inl 7)) (g : dM PG 221 [.ref 200, .int a0] h = some (.inr (exN 1), h1)) : dM PG 110 [.ref 200, .int a0, .ref 290] h = some (.inl (some (.int 2)), h1) := by
  rw [dM_of (Nat.le_of_ble_eq_true rfl)]
  simp -implicitDefEqProofs only [D_110_0, k_110_0, D_110_13, k_110_13, D_110_16, k_110_16, D_110_18, k_110_18, R_110, v_aload_n, g_iconst, v_iload_n, v_callV2, aft_v, aft_n, g_i2l, v_lastore, inJ_0, g_goto, g_ireturn, entL, getL, setL, kL_i, kL_r, isI_s, isR_s, isJ_s, gV_s, iV_i, cs0, cs1, cs2, cs3, cs4, dn_nil, kd_si, kd_sl, kd_sw, mr_si, mr_sl, mr_sw, ml_si, ml_sw, mi_sl, k, g, aft_c x_110_1, catL, retX_int]
theorem R_112 : PG.2.1 112 = (some .int) := rfl
theorem w_112 {a0 : Int32} {v : Int32} {h h1 : Mm} (k : h.kd 200 = some (.inl 7)) (k2 : h1.kd 290 = some (.inr (.long, 1))) (g : dM PG 223 [.ref 200, .int a0] h = some (.inl (some (.int v)), h1)) : dM PG 112 [.ref 200, .int a0, .ref 290] h = some (.inl (some (.int 0)), h1.sl 290 0 v.toInt64) := by
  rw [dM_of (Nat.le_of_ble_eq_true rfl)]
  simp -implicitDefEqProofs only [D_112_0, k_112_0, D_112_13, k_112_13, D_112_16, k_112_16, D_112_18, k_112_18, R_112, v_aload_n, g_iconst, v_iload_n, v_callV2, aft_v, aft_n, g_i2l, v_lastore, inJ_0, g_goto, g_ireturn, entL, getL, setL, kL_i, kL_r, isI_s, isR_s, isJ_s, gV_s, iV_i, cs0, cs1, cs2, cs3, cs4, dn_nil, kd_si, kd_sl, kd_sw, mr_si, mr_sl, mr_sw, ml_si, ml_sw, mi_sl, k, k2, g, inJ_290, ix_0, retX_int]
theorem x_112_0 : PG.2.2.1 112 (exN 0) = some (13, 3) := rfl
theorem w_112_x0 {a0 : Int32} {h h1 : Mm} (k : h.kd 200 = some (.inl 7)) (g : dM PG 223 [.ref 200, .int a0] h = some (.inr (exN 0), h1)) : dM PG 112 [.ref 200, .int a0, .ref 290] h = some (.inl (some (.int 1)), h1) := by
  rw [dM_of (Nat.le_of_ble_eq_true rfl)]
  simp -implicitDefEqProofs only [D_112_0, k_112_0, D_112_13, k_112_13, D_112_16, k_112_16, D_112_18, k_112_18, R_112, v_aload_n, g_iconst, v_iload_n, v_callV2, aft_v, aft_n, g_i2l, v_lastore, inJ_0, g_goto, g_ireturn, entL, getL, setL, kL_i, kL_r, isI_s, isR_s, isJ_s, gV_s, iV_i, cs0, cs1, cs2, cs3, cs4, dn_nil, kd_si, kd_sl, kd_sw, mr_si, mr_sl, mr_sw, ml_si, ml_sw, mi_sl, k, g, aft_c x_112_0, catL, retX_int]
theorem x_112_1 : PG.2.2.1 112 (exN 1) = some (16, 3) := rfl
theorem w_112_x1 {a0 : Int32} {h h1 : Mm} (k : h.kd 200 = some (.inl 7)) (g : dM PG 223 [.ref 200, .int a0] h = some (.inr (exN 1), h1)) : dM PG 112 [.ref 200, .int a0, .ref 290] h = some (.inl (some (.int 2)), h1) := by
  rw [dM_of (Nat.le_of_ble_eq_true rfl)]
  simp -implicitDefEqProofs only [D_112_0, k_112_0, D_112_13, k_112_13, D_112_16, k_112_16, D_112_18, k_112_18, R_112, v_aload_n, g_iconst, v_iload_n, v_callV2, aft_v, aft_n, g_i2l, v_lastore, inJ_0, g_goto, g_ireturn, entL, getL, setL, kL_i, kL_r, isI_s, isR_s, isJ_s, gV_s, iV_i, cs0, cs1, cs2, cs3, cs4, dn_nil, kd_si, kd_sl, kd_sw, mr_si, mr_sl, mr_sw, ml_si, ml_sw, mi_sl, k, g, aft_c x_112_1, catL, retX_int]
theorem R_114 : PG.2.1 114 = (some .int) := rfl
theorem w_114 {a0 a1 : Int32} {v : Int32} {h h1 : Mm} (k : h.kd 200 = some (.inl 7)) (k2 : h1.kd 290 = some (.inr (.long, 1))) (g : dM PG 224 [.ref 200, .int a0, .int a1] h = some (.inl (some (.int v)), h1)) : dM PG 114 [.ref 200, .int a0, .int a1, .ref 290] h = some (.inl (some (.int 0)), h1.sl 290 0 v.toInt64) := by
  rw [dM_of (Nat.le_of_ble_eq_true rfl)]
  simp -implicitDefEqProofs only [D_114_0, k_114_0, D_114_15, k_114_15, D_114_19, k_114_19, D_114_21, k_114_21, R_114, v_aload_n, g_iconst, v_iload_n, v_callV3, aft_v, aft_n, g_i2l, v_lastore, inJ_0, g_goto, g_ireturn, entL, getL, setL, kL_i, kL_r, isI_s, isR_s, isJ_s, gV_s, iV_i, cs0, cs1, cs2, cs3, cs4, dn_nil, kd_si, kd_sl, kd_sw, mr_si, mr_sl, mr_sw, ml_si, ml_sw, mi_sl, k, k2, g, inJ_290, ix_0, retX_int]
theorem x_114_0 : PG.2.2.1 114 (exN 0) = some (15, 4) := rfl
theorem w_114_x0 {a0 a1 : Int32} {h h1 : Mm} (k : h.kd 200 = some (.inl 7)) (g : dM PG 224 [.ref 200, .int a0, .int a1] h = some (.inr (exN 0), h1)) : dM PG 114 [.ref 200, .int a0, .int a1, .ref 290] h = some (.inl (some (.int 1)), h1) := by
  rw [dM_of (Nat.le_of_ble_eq_true rfl)]
  simp -implicitDefEqProofs only [D_114_0, k_114_0, D_114_15, k_114_15, D_114_19, k_114_19, D_114_21, k_114_21, R_114, v_aload_n, g_iconst, v_iload_n, v_callV3, aft_v, aft_n, g_i2l, v_lastore, inJ_0, g_goto, g_ireturn, entL, getL, setL, kL_i, kL_r, isI_s, isR_s, isJ_s, gV_s, iV_i, cs0, cs1, cs2, cs3, cs4, dn_nil, kd_si, kd_sl, kd_sw, mr_si, mr_sl, mr_sw, ml_si, ml_sw, mi_sl, k, g, aft_c x_114_0, catL, retX_int]
theorem x_114_1 : PG.2.2.1 114 (exN 1) = some (19, 4) := rfl
theorem w_114_x1 {a0 a1 : Int32} {h h1 : Mm} (k : h.kd 200 = some (.inl 7)) (g : dM PG 224 [.ref 200, .int a0, .int a1] h = some (.inr (exN 1), h1)) : dM PG 114 [.ref 200, .int a0, .int a1, .ref 290] h = some (.inl (some (.int 2)), h1) := by
  rw [dM_of (Nat.le_of_ble_eq_true rfl)]
  simp -implicitDefEqProofs only [D_114_0, k_114_0, D_114_15, k_114_15, D_114_19, k_114_19, D_114_21, k_114_21, R_114, v_aload_n, g_iconst, v_iload_n, v_callV3, aft_v, aft_n, g_i2l, v_lastore, inJ_0, g_goto, g_ireturn, entL, getL, setL, kL_i, kL_r, isI_s, isR_s, isJ_s, gV_s, iV_i, cs0, cs1, cs2, cs3, cs4, dn_nil, kd_si, kd_sl, kd_sw, mr_si, mr_sl, mr_sw, ml_si, ml_sw, mi_sl, k, g, aft_c x_114_1, catL, retX_int]
theorem R_116 : PG.2.1 116 = (some .int) := rfl
theorem w_116 {a0 : Int32} {v : Int32} {h h1 : Mm} (k : h.kd 200 = some (.inl 7)) (k2 : h1.kd 290 = some (.inr (.long, 1))) (g : dM PG 225 [.ref 200, .int a0] h = some (.inl (some (.int v)), h1)) : dM PG 116 [.ref 200, .int a0, .ref 290] h = some (.inl (some (.int 0)), h1.sl 290 0 v.toInt64) := by
  rw [dM_of (Nat.le_of_ble_eq_true rfl)]
  simp -implicitDefEqProofs only [D_116_0, k_116_0, D_116_13, k_116_13, D_116_16, k_116_16, D_116_18, k_116_18, R_116, v_aload_n, g_iconst, v_iload_n, v_callV2, aft_v, aft_n, g_i2l, v_lastore, inJ_0, g_goto, g_ireturn, entL, getL, setL, kL_i, kL_r, isI_s, isR_s, isJ_s, gV_s, iV_i, cs0, cs1, cs2, cs3, cs4, dn_nil, kd_si, kd_sl, kd_sw, mr_si, mr_sl, mr_sw, ml_si, ml_sw, mi_sl, k, k2, g, inJ_290, ix_0, retX_int]
theorem x_116_0 : PG.2.2.1 116 (exN 0) = some (13, 3) := rfl
theorem w_116_x0 {a0 : Int32} {h h1 : Mm} (k : h.kd 200 = some (.inl 7)) (g : dM PG 225 [.ref 200, .int a0] h = some (.inr (exN 0), h1)) : dM PG 116 [.ref 200, .int a0, .ref 290] h = some (.inl (some (.int 1)), h1) := by
  rw [dM_of (Nat.le_of_ble_eq_true rfl)]
  simp -implicitDefEqProofs only [D_116_0, k_116_0, D_116_13, k_116_13, D_116_16, k_116_16, D_116_18, k_116_18, R_116, v_aload_n, g_iconst, v_iload_n, v_callV2, aft_v, aft_n, g_i2l, v_lastore, inJ_0, g_goto, g_ireturn, entL, getL, setL, kL_i, kL_r, isI_s, isR_s, isJ_s, gV_s, iV_i, cs0, cs1, cs2, cs3, cs4, dn_nil, kd_si, kd_sl, kd_sw, mr_si, mr_sl, mr_sw, ml_si, ml_sw, mi_sl, k, g, aft_c x_116_0, catL, retX_int]
theorem x_116_1 : PG.2.2.1 116 (exN 1) = some (16, 3) := rfl
theorem w_116_x1 {a0 : Int32} {h h1 : Mm} (k : h.kd 200 = some (.inl 7)) (g : dM PG 225 [.ref 200, .int a0] h = some (.inr (exN 1), h1)) : dM PG 116 [.ref 200, .int a0, .ref 290] h = some (.inl (some (.int 2)), h1) := by
  rw [dM_of (Nat.le_of_ble_eq_true rfl)]
  simp -implicitDefEqProofs only [D_116_0, k_116_0, D_116_13, k_116_13, D_116_16, k_116_16, D_116_18, k_116_18, R_116, v_aload_n, g_iconst, v_iload_n, v_callV2, aft_v, aft_n, g_i2l, v_lastore, inJ_0, g_goto, g_ireturn, entL, getL, setL, kL_i, kL_r, isI_s, isR_s, isJ_s, gV_s, iV_i, cs0, cs1, cs2, cs3, cs4, dn_nil, kd_si, kd_sl, kd_sw, mr_si, mr_sl, mr_sw, ml_si, ml_sw, mi_sl, k, g, aft_c x_116_1, catL, retX_int]
theorem R_128 : PG.2.1 128 = (some .int) := rfl
theorem w_128 {a0 : Int32} {v : Int32} {h h1 : Mm} (k : h.kd 200 = some (.inl 7)) (k2 : h1.kd 290 = some (.inr (.long, 1))) (g : dM PG 226 [.ref 200, .int a0] h = some (.inl (some (.int v)), h1)) : dM PG 128 [.ref 200, .int a0, .ref 290] h = some (.inl (some (.int 0)), h1.sl 290 0 v.toInt64) := by
  rw [dM_of (Nat.le_of_ble_eq_true rfl)]
  simp -implicitDefEqProofs only [D_128_0, k_128_0, D_128_13, k_128_13, D_128_16, k_128_16, D_128_18, k_128_18, R_128, v_aload_n, g_iconst, v_iload_n, v_callV2, aft_v, aft_n, g_i2l, v_lastore, inJ_0, g_goto, g_ireturn, entL, getL, setL, kL_i, kL_r, isI_s, isR_s, isJ_s, gV_s, iV_i, cs0, cs1, cs2, cs3, cs4, dn_nil, kd_si, kd_sl, kd_sw, mr_si, mr_sl, mr_sw, ml_si, ml_sw, mi_sl, k, k2, g, inJ_290, ix_0, retX_int]
theorem x_128_1 : PG.2.2.1 128 (exN 1) = some (13, 3) := rfl
theorem w_128_x1 {a0 : Int32} {h h1 : Mm} (k : h.kd 200 = some (.inl 7)) (g : dM PG 226 [.ref 200, .int a0] h = some (.inr (exN 1), h1)) : dM PG 128 [.ref 200, .int a0, .ref 290] h = some (.inl (some (.int 1)), h1) := by
  rw [dM_of (Nat.le_of_ble_eq_true rfl)]
  simp -implicitDefEqProofs only [D_128_0, k_128_0, D_128_13, k_128_13, D_128_16, k_128_16, D_128_18, k_128_18, R_128, v_aload_n, g_iconst, v_iload_n, v_callV2, aft_v, aft_n, g_i2l, v_lastore, inJ_0, g_goto, g_ireturn, entL, getL, setL, kL_i, kL_r, isI_s, isR_s, isJ_s, gV_s, iV_i, cs0, cs1, cs2, cs3, cs4, dn_nil, kd_si, kd_sl, kd_sw, mr_si, mr_sl, mr_sw, ml_si, ml_sw, mi_sl, k, g, aft_c x_128_1, catL, retX_int]
theorem x_128_2 : PG.2.2.1 128 (exN 2) = some (16, 3) := rfl
theorem w_128_x2 {a0 : Int32} {h h1 : Mm} (k : h.kd 200 = some (.inl 7)) (g : dM PG 226 [.ref 200, .int a0] h = some (.inr (exN 2), h1)) : dM PG 128 [.ref 200, .int a0, .ref 290] h = some (.inl (some (.int 2)), h1) := by
  rw [dM_of (Nat.le_of_ble_eq_true rfl)]
  simp -implicitDefEqProofs only [D_128_0, k_128_0, D_128_13, k_128_13, D_128_16, k_128_16, D_128_18, k_128_18, R_128, v_aload_n, g_iconst, v_iload_n, v_callV2, aft_v, aft_n, g_i2l, v_lastore, inJ_0, g_goto, g_ireturn, entL, getL, setL, kL_i, kL_r, isI_s, isR_s, isJ_s, gV_s, iV_i, cs0, cs1, cs2, cs3, cs4, dn_nil, kd_si, kd_sl, kd_sw, mr_si, mr_sl, mr_sw, ml_si, ml_sw, mi_sl, k, g, aft_c x_128_2, catL, retX_int]
