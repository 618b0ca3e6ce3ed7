-- ===== the grader: questions =====
theorem R_251 : PG.2.1 251 = none := rfl
theorem m_251n {v lo hi : Int32} {h : Mm} (hc : v < lo ∨ ¬ v ≤ hi) : dM PG 251 [.int v, .int lo, .int hi] h = some (.inr (exN 2), h.thr) := by
  rw [dM_of (Nat.le_of_ble_eq_true rfl)]
  by_cases a : v < lo
  · simp -implicitDefEqProofs only [D_251_0, k_251_0, D_251_10, k_251_10, D_251_21, k_251_21, R_251, v_iload_n, g_icmp_lt, g_icmp_le, g_throw, g_return, entL, getL, setL, kL_i, kL_r, isI_s, isR_s, isJ_s, gV_s, iV_i, cs0, cs1, cs2, cs3, cs4, dn_nil, kd_si, kd_sl, kd_sw, mr_si, mr_sl, mr_sw, ml_si, ml_sw, mi_sl, ↓if_pos a, if_pos a]
  · have e : ¬ v ≤ hi := hc.resolve_left a
    simp -implicitDefEqProofs only [D_251_0, k_251_0, D_251_10, k_251_10, D_251_21, k_251_21, R_251, v_iload_n, g_icmp_lt, g_icmp_le, g_throw, g_return, entL, getL, setL, kL_i, kL_r, isI_s, isR_s, isJ_s, gV_s, iV_i, cs0, cs1, cs2, cs3, cs4, dn_nil, kd_si, kd_sl, kd_sw, mr_si, mr_sl, mr_sw, ml_si, ml_sw, mi_sl, ↓if_neg a, if_neg a, ↓if_neg e, if_neg e]
theorem m_251y {v lo hi : Int32} {h : Mm} (a : ¬ v < lo) (e : v ≤ hi) : dM PG 251 [.int v, .int lo, .int hi] h = some (.inl none, h) := by
  rw [dM_of (Nat.le_of_ble_eq_true rfl)]
  simp -implicitDefEqProofs only [D_251_0, k_251_0, D_251_10, k_251_10, D_251_21, k_251_21, R_251, v_iload_n, g_icmp_lt, g_icmp_le, g_throw, g_return, entL, getL, setL, kL_i, kL_r, isI_s, isR_s, isJ_s, gV_s, iV_i, cs0, cs1, cs2, cs3, cs4, dn_nil, kd_si, kd_sl, kd_sw, mr_si, mr_sl, mr_sw, ml_si, ml_sw, mi_sl, ↓if_neg a, if_neg a, ↓if_pos e, if_pos e]
theorem R_260 : PG.2.1 260 = none := rfl
theorem x_260 {E : String} : PG.2.2.1 260 E = none := rfl
theorem m_260n {i : Int32} {u d b c : Nat} {h : Mm} (G : GO h u d b c) (T : ST h b) (hl : h.mi 200 4 = 0) : dM PG 260 [.ref 200, .int i] h = some (.inr (exN 0), h.thr) := by
  rw [dM_of (Nat.le_of_ble_eq_true rfl)]
  simp -implicitDefEqProofs only [D_260_0, k_260_0, v_aload_n, v_callV1, aft_v, aft_n, v_iload_n, g_if_lt, g_getfield, sv_o, rf_s, sv_i, g_icmp_lt, entL, getL, setL, kL_i, kL_r, isI_s, isR_s, isJ_s, gV_s, iV_i, cs0, cs1, cs2, cs3, cs4, dn_nil, kd_si, kd_sl, kd_sw, mr_si, mr_sl, mr_sw, ml_si, ml_sw, mi_sl, go_k G, m_236n G hl, aft_x (x_260)]
theorem m_260x {i : Int32} {u d b c : Nat} {h : Mm} (G : GO h u d b c) (T : ST h b) (hl : ¬ h.mi 200 4 = 0) (hi : i < 0 ∨ ¬ i < h.mi b 5) : dM PG 260 [.ref 200, .int i] h = some (.inr (exN 1), h.thr) := by
  rw [dM_of (Nat.le_of_ble_eq_true rfl)]
  by_cases a : i < 0
  · simp -implicitDefEqProofs only [D_260_0, k_260_0, D_260_19, k_260_19, D_260_30, k_260_30, R_260, v_aload_n, v_callV1, aft_v, aft_n, v_iload_n, g_if_lt, g_getfield, sv_o, rf_s, sv_i, g_icmp_lt, g_throw, g_return, entL, getL, setL, kL_i, kL_r, isI_s, isR_s, isJ_s, gV_s, iV_i, cs0, cs1, cs2, cs3, cs4, dn_nil, kd_si, kd_sl, kd_sw, mr_si, mr_sl, mr_sw, ml_si, ml_sw, mi_sl, go_k G, m_236y G hl, ↓if_pos a, if_pos a]
  · have e : ¬ i < h.mi b 5 := hi.resolve_left a
    simp -implicitDefEqProofs only [D_260_0, k_260_0, D_260_19, k_260_19, D_260_30, k_260_30, R_260, v_aload_n, v_callV1, aft_v, aft_n, v_iload_n, g_if_lt, g_getfield, sv_o, rf_s, sv_i, g_icmp_lt, g_throw, g_return, entL, getL, setL, kL_i, kL_r, isI_s, isR_s, isJ_s, gV_s, iV_i, cs0, cs1, cs2, cs3, cs4, dn_nil, kd_si, kd_sl, kd_sw, mr_si, mr_sl, mr_sw, ml_si, ml_sw, mi_sl, go_k G, go_r0 G, go_r5 G, go_r6 G, go_r7 G, go_r8 G, go_r10 G, go_r12 G, go_r13 G, go_r14 G, go_k201 G, go_k273 G, go_k274 G, go_k276 G, st_k T, st_r6 T, st_r7 T, st_r8 T, st_r9 T, st_r10 T, st_r11 T, st_r12 T, st_r13 T, st_k1 T, st_k2 T, st_k3 T, st_k4 T, st_k5 T, st_k6 T, st_ki T, st_i2 T, st_i3 T, st_i4 T, st_i5 T, st_i6 T, st_k8 T, st_k9 T, st_k10 T, st_k11 T, st_k12 T, st_kb T, st_b2 T, st_b3 T, st_b4 T, st_b5 T, st_b6 T, st_k14 T, st_k15 T, st_k16 T, st_k17 T, st_k18 T, m_236y G hl, ↓if_neg a, if_neg a, ↓if_neg e, if_neg e]
theorem m_260y {i : Int32} {u d b c : Nat} {h : Mm} (G : GO h u d b c) (T : ST h b) (hl : ¬ h.mi 200 4 = 0) (a : ¬ i < 0) (e : i < h.mi b 5) : dM PG 260 [.ref 200, .int i] h = some (.inl none, h) := by
  rw [dM_of (Nat.le_of_ble_eq_true rfl)]
  simp -implicitDefEqProofs only [D_260_0, k_260_0, D_260_19, k_260_19, D_260_30, k_260_30, R_260, v_aload_n, v_callV1, aft_v, aft_n, v_iload_n, g_if_lt, g_getfield, sv_o, rf_s, sv_i, g_icmp_lt, g_throw, g_return, entL, getL, setL, kL_i, kL_r, isI_s, isR_s, isJ_s, gV_s, iV_i, cs0, cs1, cs2, cs3, cs4, dn_nil, kd_si, kd_sl, kd_sw, mr_si, mr_sl, mr_sw, ml_si, ml_sw, mi_sl, go_k G, go_r0 G, go_r5 G, go_r6 G, go_r7 G, go_r8 G, go_r10 G, go_r12 G, go_r13 G, go_r14 G, go_k201 G, go_k273 G, go_k274 G, go_k276 G, st_k T, st_r6 T, st_r7 T, st_r8 T, st_r9 T, st_r10 T, st_r11 T, st_r12 T, st_r13 T, st_k1 T, st_k2 T, st_k3 T, st_k4 T, st_k5 T, st_k6 T, st_ki T, st_i2 T, st_i3 T, st_i4 T, st_i5 T, st_i6 T, st_k8 T, st_k9 T, st_k10 T, st_k11 T, st_k12 T, st_kb T, st_b2 T, st_b3 T, st_b4 T, st_b5 T, st_b6 T, st_k14 T, st_k15 T, st_k16 T, st_k17 T, st_k18 T, m_236y G hl, ↓if_neg a, if_neg a, ↓if_pos e, if_pos e]
theorem R_261 : PG.2.1 261 = none := rfl
theorem x_261 {E : String} : PG.2.2.1 261 E = none := rfl
theorem m_261n {i p : Int32} {u d b c : Nat} {h : Mm} (G : GO h u d b c) (U : SU h u) (hl : h.mi 200 4 = 0) : dM PG 261 [.ref 200, .int i, .int p] h = some (.inr (exN 0), h.thr) := by
  rw [dM_of (Nat.le_of_ble_eq_true rfl)]
  simp -implicitDefEqProofs only [D_261_0, k_261_0, v_aload_n, v_iload_n, v_callV2, aft_v, aft_n, g_if_lt, g_getfield, sv_o, rf_s, sv_i, g_icmp_lt, entL, getL, setL, kL_i, kL_r, isI_s, isR_s, isJ_s, gV_s, iV_i, cs0, cs1, cs2, cs3, cs4, dn_nil, kd_si, kd_sl, kd_sw, mr_si, mr_sl, mr_sw, ml_si, ml_sw, mi_sl, go_k G, m_250n G U hl, aft_x (x_261)]
theorem m_261x {i p : Int32} {u d b c : Nat} {h : Mm} (G : GO h u d b c) (U : SU h u) (hl : ¬ h.mi 200 4 = 0) (hi : i < 0 ∨ ¬ i < h.mi u 11) : dM PG 261 [.ref 200, .int i, .int p] h = some (.inr (exN 1), h.thr) := by
  rw [dM_of (Nat.le_of_ble_eq_true rfl)]
  simp -implicitDefEqProofs only [D_261_0, k_261_0, v_aload_n, v_iload_n, v_callV2, aft_v, aft_n, g_if_lt, g_getfield, sv_o, rf_s, sv_i, g_icmp_lt, entL, getL, setL, kL_i, kL_r, isI_s, isR_s, isJ_s, gV_s, iV_i, cs0, cs1, cs2, cs3, cs4, dn_nil, kd_si, kd_sl, kd_sw, mr_si, mr_sl, mr_sw, ml_si, ml_sw, mi_sl, go_k G, m_250x G U hl hi, aft_x (x_261)]
theorem m_261p {k : Nat} {p : Int32} (hk : k < 4) {u d b c : Nat} {h : Mm} (G : GO h u d b c) (U : SU h u) (hl : ¬ h.mi 200 4 = 0) (e : Int32.ofNat k < h.mi u 11) (hp : p < 0 ∨ ¬ p < h.mi (u + 3 + k) 1) : dM PG 261 [.ref 200, .int (Int32.ofNat k), .int p] h = some (.inr (exN 1), h.thr) := by
  rw [dM_of (Nat.le_of_ble_eq_true rfl)]
  have a : ¬ Int32.ofNat k < 0 := i32_0n (by omega)
  have kk := su_kk hk U
  by_cases ap : p < 0
  · simp -implicitDefEqProofs only [D_261_0, k_261_0, D_261_24, k_261_24, D_261_35, k_261_35, R_261, v_aload_n, v_iload_n, v_callV2, aft_v, aft_n, g_if_lt, g_getfield, sv_o, rf_s, sv_i, g_icmp_lt, g_throw, g_return, entL, getL, setL, kL_i, kL_r, isI_s, isR_s, isJ_s, gV_s, iV_i, cs0, cs1, cs2, cs3, cs4, dn_nil, kd_si, kd_sl, kd_sw, mr_si, mr_sl, mr_sw, ml_si, ml_sw, mi_sl, go_k G, m_250y G U hl a e, ↓if_pos ap, if_pos ap]
  · have ep : ¬ p < h.mi (u + 3 + k) 1 := hp.resolve_left ap
    simp -implicitDefEqProofs only [D_261_0, k_261_0, D_261_24, k_261_24, D_261_35, k_261_35, R_261, v_aload_n, v_iload_n, v_callV2, aft_v, aft_n, g_if_lt, g_getfield, sv_o, rf_s, sv_i, g_icmp_lt, g_throw, g_return, entL, getL, setL, kL_i, kL_r, isI_s, isR_s, isJ_s, gV_s, iV_i, cs0, cs1, cs2, cs3, cs4, dn_nil, kd_si, kd_sl, kd_sw, mr_si, mr_sl, mr_sw, ml_si, ml_sw, mi_sl, go_k G, go_r0 G, go_r5 G, go_r6 G, go_r7 G, go_r8 G, go_r10 G, go_r12 G, go_r13 G, go_r14 G, go_k201 G, go_k273 G, go_k274 G, go_k276 G, su_k U, su_r9 U, su_r10 U, su_r12 U, su_r13 U, su_r14 U, su_r15 U, su_k1 U, su_k2 U, su_k3 U, su_k4 U, su_k5 U, su_k6 U, m_250y G U hl a e, m_247 hk U, kk, ↓if_neg ap, if_neg ap, ↓if_neg ep, if_neg ep]
theorem m_261y {k : Nat} {p : Int32} (hk : k < 4) {u d b c : Nat} {h : Mm} (G : GO h u d b c) (U : SU h u) (hl : ¬ h.mi 200 4 = 0) (e : Int32.ofNat k < h.mi u 11) (ap : ¬ p < 0) (ep : p < h.mi (u + 3 + k) 1) : dM PG 261 [.ref 200, .int (Int32.ofNat k), .int p] h = some (.inl none, h) := by
  rw [dM_of (Nat.le_of_ble_eq_true rfl)]
  have a : ¬ Int32.ofNat k < 0 := i32_0n (by omega)
  have kk := su_kk hk U
  simp -implicitDefEqProofs only [D_261_0, k_261_0, D_261_24, k_261_24, D_261_35, k_261_35, R_261, v_aload_n, v_iload_n, v_callV2, aft_v, aft_n, g_if_lt, g_getfield, sv_o, rf_s, sv_i, g_icmp_lt, g_throw, g_return, entL, getL, setL, kL_i, kL_r, isI_s, isR_s, isJ_s, gV_s, iV_i, cs0, cs1, cs2, cs3, cs4, dn_nil, kd_si, kd_sl, kd_sw, mr_si, mr_sl, mr_sw, ml_si, ml_sw, mi_sl, go_k G, go_r0 G, go_r5 G, go_r6 G, go_r7 G, go_r8 G, go_r10 G, go_r12 G, go_r13 G, go_r14 G, go_k201 G, go_k273 G, go_k274 G, go_k276 G, su_k U, su_r9 U, su_r10 U, su_r12 U, su_r13 U, su_r14 U, su_r15 U, su_k1 U, su_k2 U, su_k3 U, su_k4 U, su_k5 U, su_k6 U, m_250y G U hl a e, m_247 hk U, kk, ↓if_neg ap, if_neg ap, ↓if_pos ep, if_pos ep]
theorem R_223 : PG.2.1 223 = (some .int) := rfl
theorem x_223 {E : String} : PG.2.2.1 223 E = none := rfl
theorem m_223n {i : Int32} {u d b c : Nat} {h : Mm} (G : GO h u d b c) (T : ST h b) (hl : h.mi 200 4 = 0) : dM PG 223 [.ref 200, .int i] h = some (.inr (exN 0), h.thr) := by
  rw [dM_of (Nat.le_of_ble_eq_true rfl)]
  simp -implicitDefEqProofs only [D_223_0, k_223_0, R_223, v_aload_n, v_iload_n, v_callV2, aft_v, aft_n, g_getfield, sv_o, rf_s, sv_a, v_iaload, inI_0, g_ireturn, entL, getL, setL, kL_i, kL_r, isI_s, isR_s, isJ_s, gV_s, iV_i, cs0, cs1, cs2, cs3, cs4, dn_nil, kd_si, kd_sl, kd_sw, mr_si, mr_sl, mr_sw, ml_si, ml_sw, mi_sl, go_k G, m_287n G T hl, aft_x (x_223)]
theorem m_223x {i : Int32} {u d b c : Nat} {h : Mm} (G : GO h u d b c) (T : ST h b) (hl : ¬ h.mi 200 4 = 0) (hi : i < 0 ∨ ¬ i < h.mi (b + 7) 0) : dM PG 223 [.ref 200, .int i] h = some (.inr (exN 1), h.thr) := by
  rw [dM_of (Nat.le_of_ble_eq_true rfl)]
  simp -implicitDefEqProofs only [D_223_0, k_223_0, R_223, v_aload_n, v_iload_n, v_callV2, aft_v, aft_n, g_getfield, sv_o, rf_s, sv_a, v_iaload, inI_0, g_ireturn, entL, getL, setL, kL_i, kL_r, isI_s, isR_s, isJ_s, gV_s, iV_i, cs0, cs1, cs2, cs3, cs4, dn_nil, kd_si, kd_sl, kd_sw, mr_si, mr_sl, mr_sw, ml_si, ml_sw, mi_sl, go_k G, m_287x G T hl hi, aft_x (x_223)]
theorem m_223y {k : Nat} (hk : k < 80) {u d b c : Nat} {h : Mm} (G : GO h u d b c) (T : ST h b) (hl : ¬ h.mi 200 4 = 0) (e : Int32.ofNat k < h.mi (b + 7) 0) : dM PG 223 [.ref 200, .int (Int32.ofNat k)] h = some (.inl (some (.int (h.mi (b + 9) k))), h) := by
  rw [dM_of (Nat.le_of_ble_eq_true rfl)]
  have b_1 : inb (Int32.ofNat (k)) 80 = true := inb_nat (by omega) (by decide)
  have n_1 : (Int32.ofNat (k)).toNatClampNeg = k := i32_nat (by omega)
  have a : ¬ Int32.ofNat k < 0 := i32_0n (by omega)
  simp -implicitDefEqProofs only [D_223_0, k_223_0, R_223, v_aload_n, v_iload_n, v_callV2, aft_v, aft_n, g_getfield, sv_o, rf_s, sv_a, v_iaload, inI_0, g_ireturn, entL, getL, setL, kL_i, kL_r, isI_s, isR_s, isJ_s, gV_s, iV_i, cs0, cs1, cs2, cs3, cs4, dn_nil, kd_si, kd_sl, kd_sw, mr_si, mr_sl, mr_sw, ml_si, ml_sw, mi_sl, go_k G, go_r0 G, go_r5 G, go_r6 G, go_r7 G, go_r8 G, go_r10 G, go_r12 G, go_r13 G, go_r14 G, go_k201 G, go_k273 G, go_k274 G, go_k276 G, st_k T, st_r6 T, st_r7 T, st_r8 T, st_r9 T, st_r10 T, st_r11 T, st_r12 T, st_r13 T, st_k1 T, st_k2 T, st_k3 T, st_k4 T, st_k5 T, st_k6 T, st_ki T, st_i2 T, st_i3 T, st_i4 T, st_i5 T, st_i6 T, st_k8 T, st_k9 T, st_k10 T, st_k11 T, st_k12 T, st_kb T, st_b2 T, st_b3 T, st_b4 T, st_b5 T, st_b6 T, st_k14 T, st_k15 T, st_k16 T, st_k17 T, st_k18 T, m_287y G T hl a e, b_1, n_1, retX_int]
theorem R_221 : PG.2.1 221 = (some .int) := rfl
theorem x_221 {E : String} : PG.2.2.1 221 E = none := rfl
theorem m_221n {i : Int32} {u d b c : Nat} {h : Mm} (G : GO h u d b c) (T : ST h b) (hl : h.mi 200 4 = 0) : dM PG 221 [.ref 200, .int i] h = some (.inr (exN 0), h.thr) := by
  rw [dM_of (Nat.le_of_ble_eq_true rfl)]
  simp -implicitDefEqProofs only [D_221_0, k_221_0, R_221, v_aload_n, v_iload_n, v_callV2, aft_v, aft_n, g_getfield, sv_o, rf_s, sv_a, v_iaload, inI_0, g_ireturn, entL, getL, setL, kL_i, kL_r, isI_s, isR_s, isJ_s, gV_s, iV_i, cs0, cs1, cs2, cs3, cs4, dn_nil, kd_si, kd_sl, kd_sw, mr_si, mr_sl, mr_sw, ml_si, ml_sw, mi_sl, go_k G, m_287n G T hl, aft_x (x_221)]
theorem m_221x {i : Int32} {u d b c : Nat} {h : Mm} (G : GO h u d b c) (T : ST h b) (hl : ¬ h.mi 200 4 = 0) (hi : i < 0 ∨ ¬ i < h.mi (b + 7) 0) : dM PG 221 [.ref 200, .int i] h = some (.inr (exN 1), h.thr) := by
  rw [dM_of (Nat.le_of_ble_eq_true rfl)]
  simp -implicitDefEqProofs only [D_221_0, k_221_0, R_221, v_aload_n, v_iload_n, v_callV2, aft_v, aft_n, g_getfield, sv_o, rf_s, sv_a, v_iaload, inI_0, g_ireturn, entL, getL, setL, kL_i, kL_r, isI_s, isR_s, isJ_s, gV_s, iV_i, cs0, cs1, cs2, cs3, cs4, dn_nil, kd_si, kd_sl, kd_sw, mr_si, mr_sl, mr_sw, ml_si, ml_sw, mi_sl, go_k G, m_287x G T hl hi, aft_x (x_221)]
theorem m_221y {k : Nat} (hk : k < 80) {u d b c : Nat} {h : Mm} (G : GO h u d b c) (T : ST h b) (hl : ¬ h.mi 200 4 = 0) (e : Int32.ofNat k < h.mi (b + 7) 0) : dM PG 221 [.ref 200, .int (Int32.ofNat k)] h = some (.inl (some (.int (h.mi (b + 10) k))), h) := by
  rw [dM_of (Nat.le_of_ble_eq_true rfl)]
  have b_1 : inb (Int32.ofNat (k)) 80 = true := inb_nat (by omega) (by decide)
  have n_1 : (Int32.ofNat (k)).toNatClampNeg = k := i32_nat (by omega)
  have a : ¬ Int32.ofNat k < 0 := i32_0n (by omega)
  simp -implicitDefEqProofs only [D_221_0, k_221_0, R_221, v_aload_n, v_iload_n, v_callV2, aft_v, aft_n, g_getfield, sv_o, rf_s, sv_a, v_iaload, inI_0, g_ireturn, entL, getL, setL, kL_i, kL_r, isI_s, isR_s, isJ_s, gV_s, iV_i, cs0, cs1, cs2, cs3, cs4, dn_nil, kd_si, kd_sl, kd_sw, mr_si, mr_sl, mr_sw, ml_si, ml_sw, mi_sl, go_k G, go_r0 G, go_r5 G, go_r6 G, go_r7 G, go_r8 G, go_r10 G, go_r12 G, go_r13 G, go_r14 G, go_k201 G, go_k273 G, go_k274 G, go_k276 G, st_k T, st_r6 T, st_r7 T, st_r8 T, st_r9 T, st_r10 T, st_r11 T, st_r12 T, st_r13 T, st_k1 T, st_k2 T, st_k3 T, st_k4 T, st_k5 T, st_k6 T, st_ki T, st_i2 T, st_i3 T, st_i4 T, st_i5 T, st_i6 T, st_k8 T, st_k9 T, st_k10 T, st_k11 T, st_k12 T, st_kb T, st_b2 T, st_b3 T, st_b4 T, st_b5 T, st_b6 T, st_k14 T, st_k15 T, st_k16 T, st_k17 T, st_k18 T, m_287y G T hl a e, b_1, n_1, retX_int]
theorem R_220 : PG.2.1 220 = (some .int) := rfl
theorem x_220 {E : String} : PG.2.2.1 220 E = none := rfl
theorem m_220n {i : Int32} {u d b c : Nat} {h : Mm} (G : GO h u d b c) (T : ST h b) (hl : h.mi 200 4 = 0) : dM PG 220 [.ref 200, .int i] h = some (.inr (exN 0), h.thr) := by
  rw [dM_of (Nat.le_of_ble_eq_true rfl)]
  simp -implicitDefEqProofs only [D_220_0, k_220_0, R_220, v_aload_n, v_iload_n, v_callV2, aft_v, aft_n, g_getfield, sv_o, rf_s, sv_a, v_iaload, inI_0, g_ireturn, entL, getL, setL, kL_i, kL_r, isI_s, isR_s, isJ_s, gV_s, iV_i, cs0, cs1, cs2, cs3, cs4, dn_nil, kd_si, kd_sl, kd_sw, mr_si, mr_sl, mr_sw, ml_si, ml_sw, mi_sl, go_k G, m_287n G T hl, aft_x (x_220)]
theorem m_220x {i : Int32} {u d b c : Nat} {h : Mm} (G : GO h u d b c) (T : ST h b) (hl : ¬ h.mi 200 4 = 0) (hi : i < 0 ∨ ¬ i < h.mi (b + 7) 0) : dM PG 220 [.ref 200, .int i] h = some (.inr (exN 1), h.thr) := by
  rw [dM_of (Nat.le_of_ble_eq_true rfl)]
  simp -implicitDefEqProofs only [D_220_0, k_220_0, R_220, v_aload_n, v_iload_n, v_callV2, aft_v, aft_n, g_getfield, sv_o, rf_s, sv_a, v_iaload, inI_0, g_ireturn, entL, getL, setL, kL_i, kL_r, isI_s, isR_s, isJ_s, gV_s, iV_i, cs0, cs1, cs2, cs3, cs4, dn_nil, kd_si, kd_sl, kd_sw, mr_si, mr_sl, mr_sw, ml_si, ml_sw, mi_sl, go_k G, m_287x G T hl hi, aft_x (x_220)]
theorem m_220y {k : Nat} (hk : k < 80) {u d b c : Nat} {h : Mm} (G : GO h u d b c) (T : ST h b) (hl : ¬ h.mi 200 4 = 0) (e : Int32.ofNat k < h.mi (b + 7) 0) : dM PG 220 [.ref 200, .int (Int32.ofNat k)] h = some (.inl (some (.int (h.mi (b + 11) k))), h) := by
  rw [dM_of (Nat.le_of_ble_eq_true rfl)]
  have b_1 : inb (Int32.ofNat (k)) 80 = true := inb_nat (by omega) (by decide)
  have n_1 : (Int32.ofNat (k)).toNatClampNeg = k := i32_nat (by omega)
  have a : ¬ Int32.ofNat k < 0 := i32_0n (by omega)
  simp -implicitDefEqProofs only [D_220_0, k_220_0, R_220, v_aload_n, v_iload_n, v_callV2, aft_v, aft_n, g_getfield, sv_o, rf_s, sv_a, v_iaload, inI_0, g_ireturn, entL, getL, setL, kL_i, kL_r, isI_s, isR_s, isJ_s, gV_s, iV_i, cs0, cs1, cs2, cs3, cs4, dn_nil, kd_si, kd_sl, kd_sw, mr_si, mr_sl, mr_sw, ml_si, ml_sw, mi_sl, go_k G, go_r0 G, go_r5 G, go_r6 G, go_r7 G, go_r8 G, go_r10 G, go_r12 G, go_r13 G, go_r14 G, go_k201 G, go_k273 G, go_k274 G, go_k276 G, st_k T, st_r6 T, st_r7 T, st_r8 T, st_r9 T, st_r10 T, st_r11 T, st_r12 T, st_r13 T, st_k1 T, st_k2 T, st_k3 T, st_k4 T, st_k5 T, st_k6 T, st_ki T, st_i2 T, st_i3 T, st_i4 T, st_i5 T, st_i6 T, st_k8 T, st_k9 T, st_k10 T, st_k11 T, st_k12 T, st_kb T, st_b2 T, st_b3 T, st_b4 T, st_b5 T, st_b6 T, st_k14 T, st_k15 T, st_k16 T, st_k17 T, st_k18 T, m_287y G T hl a e, b_1, n_1, retX_int]
theorem R_217 : PG.2.1 217 = (some .int) := rfl
theorem x_217 {E : String} : PG.2.2.1 217 E = none := rfl
theorem m_217n {i : Int32} {u d b c : Nat} {h : Mm} (G : GO h u d b c) (T : ST h b) (hl : h.mi 200 4 = 0) : dM PG 217 [.ref 200, .int i] h = some (.inr (exN 0), h.thr) := by
  rw [dM_of (Nat.le_of_ble_eq_true rfl)]
  simp -implicitDefEqProofs only [D_217_0, k_217_0, R_217, v_aload_n, v_iload_n, v_callV2, aft_v, aft_n, g_getfield, sv_o, rf_s, g_ireturn, entL, getL, setL, kL_i, kL_r, isI_s, isR_s, isJ_s, gV_s, iV_i, cs0, cs1, cs2, cs3, cs4, dn_nil, kd_si, kd_sl, kd_sw, mr_si, mr_sl, mr_sw, ml_si, ml_sw, mi_sl, go_k G, m_287n G T hl, aft_x (x_217)]
theorem m_217x {i : Int32} {u d b c : Nat} {h : Mm} (G : GO h u d b c) (T : ST h b) (hl : ¬ h.mi 200 4 = 0) (hi : i < 0 ∨ ¬ i < h.mi (b + 7) 0) : dM PG 217 [.ref 200, .int i] h = some (.inr (exN 1), h.thr) := by
  rw [dM_of (Nat.le_of_ble_eq_true rfl)]
  simp -implicitDefEqProofs only [D_217_0, k_217_0, R_217, v_aload_n, v_iload_n, v_callV2, aft_v, aft_n, g_getfield, sv_o, rf_s, g_ireturn, entL, getL, setL, kL_i, kL_r, isI_s, isR_s, isJ_s, gV_s, iV_i, cs0, cs1, cs2, cs3, cs4, dn_nil, kd_si, kd_sl, kd_sw, mr_si, mr_sl, mr_sw, ml_si, ml_sw, mi_sl, go_k G, m_287x G T hl hi, aft_x (x_217)]
theorem m_217y {k : Nat} (hk : k < 80) {u d b c : Nat} {h : Mm} (G : GO h u d b c) (T : ST h b) (hl : ¬ h.mi 200 4 = 0) (e : Int32.ofNat k < h.mi (b + 7) 0) : dM PG 217 [.ref 200, .int (Int32.ofNat k)] h = some (.inl (some (.int (claF (rowsAt h b) k))), h) := by
  rw [dM_of (Nat.le_of_ble_eq_true rfl)]
  have b_1 : inb (Int32.ofNat (k)) 80 = true := inb_nat (by omega) (by decide)
  have n_1 : (Int32.ofNat (k)).toNatClampNeg = k := i32_nat (by omega)
  have a : ¬ Int32.ofNat k < 0 := i32_0n (by omega)
  have g := m_288 hk T (R := rowsAt h b)
  rw [sb_id] at g
  simp -implicitDefEqProofs only [D_217_0, k_217_0, R_217, v_aload_n, v_iload_n, v_callV2, aft_v, aft_n, g_getfield, sv_o, rf_s, g_ireturn, entL, getL, setL, kL_i, kL_r, isI_s, isR_s, isJ_s, gV_s, iV_i, cs0, cs1, cs2, cs3, cs4, dn_nil, kd_si, kd_sl, kd_sw, mr_si, mr_sl, mr_sw, ml_si, ml_sw, mi_sl, go_k G, go_r0 G, go_r5 G, go_r6 G, go_r7 G, go_r8 G, go_r10 G, go_r12 G, go_r13 G, go_r14 G, go_k201 G, go_k273 G, go_k274 G, go_k276 G, st_k T, st_r6 T, st_r7 T, st_r8 T, st_r9 T, st_r10 T, st_r11 T, st_r12 T, st_r13 T, st_k1 T, st_k2 T, st_k3 T, st_k4 T, st_k5 T, st_k6 T, st_ki T, st_i2 T, st_i3 T, st_i4 T, st_i5 T, st_i6 T, st_k8 T, st_k9 T, st_k10 T, st_k11 T, st_k12 T, st_kb T, st_b2 T, st_b3 T, st_b4 T, st_b5 T, st_b6 T, st_k14 T, st_k15 T, st_k16 T, st_k17 T, st_k18 T, m_287y G T hl a e, b_1, n_1, g, retX_int]
theorem R_214 : PG.2.1 214 = (some .int) := rfl
theorem x_214 {E : String} : PG.2.2.1 214 E = none := rfl
theorem m_214n {i : Int32} {u d b c : Nat} {h : Mm} (G : GO h u d b c) (T : ST h b) (hl : h.mi 200 4 = 0) : dM PG 214 [.ref 200, .int i] h = some (.inr (exN 0), h.thr) := by
  rw [dM_of (Nat.le_of_ble_eq_true rfl)]
  simp -implicitDefEqProofs only [D_214_0, k_214_0, R_214, v_aload_n, v_iload_n, v_callV2, aft_v, aft_n, g_getfield, sv_o, rf_s, sv_a, v_iaload, inI_0, g_ireturn, entL, getL, setL, kL_i, kL_r, isI_s, isR_s, isJ_s, gV_s, iV_i, cs0, cs1, cs2, cs3, cs4, dn_nil, kd_si, kd_sl, kd_sw, mr_si, mr_sl, mr_sw, ml_si, ml_sw, mi_sl, go_k G, m_246n G T hl, aft_x (x_214)]
theorem m_214x {i : Int32} {u d b c : Nat} {h : Mm} (G : GO h u d b c) (T : ST h b) (hl : ¬ h.mi 200 4 = 0) (hi : i < 0 ∨ ¬ i < h.mi (b + 13) 0) : dM PG 214 [.ref 200, .int i] h = some (.inr (exN 1), h.thr) := by
  rw [dM_of (Nat.le_of_ble_eq_true rfl)]
  simp -implicitDefEqProofs only [D_214_0, k_214_0, R_214, v_aload_n, v_iload_n, v_callV2, aft_v, aft_n, g_getfield, sv_o, rf_s, sv_a, v_iaload, inI_0, g_ireturn, entL, getL, setL, kL_i, kL_r, isI_s, isR_s, isJ_s, gV_s, iV_i, cs0, cs1, cs2, cs3, cs4, dn_nil, kd_si, kd_sl, kd_sw, mr_si, mr_sl, mr_sw, ml_si, ml_sw, mi_sl, go_k G, m_246x G T hl hi, aft_x (x_214)]
theorem m_214y {k : Nat} (hk : k < 80) {u d b c : Nat} {h : Mm} (G : GO h u d b c) (T : ST h b) (hl : ¬ h.mi 200 4 = 0) (e : Int32.ofNat k < h.mi (b + 13) 0) : dM PG 214 [.ref 200, .int (Int32.ofNat k)] h = some (.inl (some (.int (h.mi (b + 14) k))), h) := by
  rw [dM_of (Nat.le_of_ble_eq_true rfl)]
  have b_1 : inb (Int32.ofNat (k)) 80 = true := inb_nat (by omega) (by decide)
  have n_1 : (Int32.ofNat (k)).toNatClampNeg = k := i32_nat (by omega)
  have a : ¬ Int32.ofNat k < 0 := i32_0n (by omega)
  simp -implicitDefEqProofs only [D_214_0, k_214_0, R_214, v_aload_n, v_iload_n, v_callV2, aft_v, aft_n, g_getfield, sv_o, rf_s, sv_a, v_iaload, inI_0, g_ireturn, entL, getL, setL, kL_i, kL_r, isI_s, isR_s, isJ_s, gV_s, iV_i, cs0, cs1, cs2, cs3, cs4, dn_nil, kd_si, kd_sl, kd_sw, mr_si, mr_sl, mr_sw, ml_si, ml_sw, mi_sl, go_k G, go_r0 G, go_r5 G, go_r6 G, go_r7 G, go_r8 G, go_r10 G, go_r12 G, go_r13 G, go_r14 G, go_k201 G, go_k273 G, go_k274 G, go_k276 G, st_k T, st_r6 T, st_r7 T, st_r8 T, st_r9 T, st_r10 T, st_r11 T, st_r12 T, st_r13 T, st_k1 T, st_k2 T, st_k3 T, st_k4 T, st_k5 T, st_k6 T, st_ki T, st_i2 T, st_i3 T, st_i4 T, st_i5 T, st_i6 T, st_k8 T, st_k9 T, st_k10 T, st_k11 T, st_k12 T, st_kb T, st_b2 T, st_b3 T, st_b4 T, st_b5 T, st_b6 T, st_k14 T, st_k15 T, st_k16 T, st_k17 T, st_k18 T, m_246y G T hl a e, b_1, n_1, retX_int]
theorem R_213 : PG.2.1 213 = (some .int) := rfl
theorem x_213 {E : String} : PG.2.2.1 213 E = none := rfl
theorem m_213n {i : Int32} {u d b c : Nat} {h : Mm} (G : GO h u d b c) (T : ST h b) (hl : h.mi 200 4 = 0) : dM PG 213 [.ref 200, .int i] h = some (.inr (exN 0), h.thr) := by
  rw [dM_of (Nat.le_of_ble_eq_true rfl)]
  simp -implicitDefEqProofs only [D_213_0, k_213_0, R_213, v_aload_n, v_iload_n, v_callV2, aft_v, aft_n, g_getfield, sv_o, rf_s, sv_a, v_iaload, inI_0, g_ireturn, entL, getL, setL, kL_i, kL_r, isI_s, isR_s, isJ_s, gV_s, iV_i, cs0, cs1, cs2, cs3, cs4, dn_nil, kd_si, kd_sl, kd_sw, mr_si, mr_sl, mr_sw, ml_si, ml_sw, mi_sl, go_k G, m_246n G T hl, aft_x (x_213)]
theorem m_213x {i : Int32} {u d b c : Nat} {h : Mm} (G : GO h u d b c) (T : ST h b) (hl : ¬ h.mi 200 4 = 0) (hi : i < 0 ∨ ¬ i < h.mi (b + 13) 0) : dM PG 213 [.ref 200, .int i] h = some (.inr (exN 1), h.thr) := by
  rw [dM_of (Nat.le_of_ble_eq_true rfl)]
  simp -implicitDefEqProofs only [D_213_0, k_213_0, R_213, v_aload_n, v_iload_n, v_callV2, aft_v, aft_n, g_getfield, sv_o, rf_s, sv_a, v_iaload, inI_0, g_ireturn, entL, getL, setL, kL_i, kL_r, isI_s, isR_s, isJ_s, gV_s, iV_i, cs0, cs1, cs2, cs3, cs4, dn_nil, kd_si, kd_sl, kd_sw, mr_si, mr_sl, mr_sw, ml_si, ml_sw, mi_sl, go_k G, m_246x G T hl hi, aft_x (x_213)]
theorem m_213y {k : Nat} (hk : k < 80) {u d b c : Nat} {h : Mm} (G : GO h u d b c) (T : ST h b) (hl : ¬ h.mi 200 4 = 0) (e : Int32.ofNat k < h.mi (b + 13) 0) : dM PG 213 [.ref 200, .int (Int32.ofNat k)] h = some (.inl (some (.int (h.mi (b + 15) k))), h) := by
  rw [dM_of (Nat.le_of_ble_eq_true rfl)]
  have b_1 : inb (Int32.ofNat (k)) 80 = true := inb_nat (by omega) (by decide)
  have n_1 : (Int32.ofNat (k)).toNatClampNeg = k := i32_nat (by omega)
  have a : ¬ Int32.ofNat k < 0 := i32_0n (by omega)
  simp -implicitDefEqProofs only [D_213_0, k_213_0, R_213, v_aload_n, v_iload_n, v_callV2, aft_v, aft_n, g_getfield, sv_o, rf_s, sv_a, v_iaload, inI_0, g_ireturn, entL, getL, setL, kL_i, kL_r, isI_s, isR_s, isJ_s, gV_s, iV_i, cs0, cs1, cs2, cs3, cs4, dn_nil, kd_si, kd_sl, kd_sw, mr_si, mr_sl, mr_sw, ml_si, ml_sw, mi_sl, go_k G, go_r0 G, go_r5 G, go_r6 G, go_r7 G, go_r8 G, go_r10 G, go_r12 G, go_r13 G, go_r14 G, go_k201 G, go_k273 G, go_k274 G, go_k276 G, st_k T, st_r6 T, st_r7 T, st_r8 T, st_r9 T, st_r10 T, st_r11 T, st_r12 T, st_r13 T, st_k1 T, st_k2 T, st_k3 T, st_k4 T, st_k5 T, st_k6 T, st_ki T, st_i2 T, st_i3 T, st_i4 T, st_i5 T, st_i6 T, st_k8 T, st_k9 T, st_k10 T, st_k11 T, st_k12 T, st_kb T, st_b2 T, st_b3 T, st_b4 T, st_b5 T, st_b6 T, st_k14 T, st_k15 T, st_k16 T, st_k17 T, st_k18 T, m_246y G T hl a e, b_1, n_1, retX_int]
theorem R_211 : PG.2.1 211 = (some .int) := rfl
theorem x_211 {E : String} : PG.2.2.1 211 E = none := rfl
theorem m_211n {i : Int32} {u d b c : Nat} {h : Mm} (G : GO h u d b c) (T : ST h b) (hl : h.mi 200 4 = 0) : dM PG 211 [.ref 200, .int i] h = some (.inr (exN 0), h.thr) := by
  rw [dM_of (Nat.le_of_ble_eq_true rfl)]
  simp -implicitDefEqProofs only [D_211_0, k_211_0, R_211, v_aload_n, v_iload_n, v_callV2, aft_v, aft_n, g_getfield, sv_o, rf_s, sv_a, v_iaload, inI_0, g_ireturn, entL, getL, setL, kL_i, kL_r, isI_s, isR_s, isJ_s, gV_s, iV_i, cs0, cs1, cs2, cs3, cs4, dn_nil, kd_si, kd_sl, kd_sw, mr_si, mr_sl, mr_sw, ml_si, ml_sw, mi_sl, go_k G, m_246n G T hl, aft_x (x_211)]
theorem m_211x {i : Int32} {u d b c : Nat} {h : Mm} (G : GO h u d b c) (T : ST h b) (hl : ¬ h.mi 200 4 = 0) (hi : i < 0 ∨ ¬ i < h.mi (b + 13) 0) : dM PG 211 [.ref 200, .int i] h = some (.inr (exN 1), h.thr) := by
  rw [dM_of (Nat.le_of_ble_eq_true rfl)]
  simp -implicitDefEqProofs only [D_211_0, k_211_0, R_211, v_aload_n, v_iload_n, v_callV2, aft_v, aft_n, g_getfield, sv_o, rf_s, sv_a, v_iaload, inI_0, g_ireturn, entL, getL, setL, kL_i, kL_r, isI_s, isR_s, isJ_s, gV_s, iV_i, cs0, cs1, cs2, cs3, cs4, dn_nil, kd_si, kd_sl, kd_sw, mr_si, mr_sl, mr_sw, ml_si, ml_sw, mi_sl, go_k G, m_246x G T hl hi, aft_x (x_211)]
theorem m_211y {k : Nat} (hk : k < 80) {u d b c : Nat} {h : Mm} (G : GO h u d b c) (T : ST h b) (hl : ¬ h.mi 200 4 = 0) (e : Int32.ofNat k < h.mi (b + 13) 0) : dM PG 211 [.ref 200, .int (Int32.ofNat k)] h = some (.inl (some (.int (h.mi (b + 17) k))), h) := by
  rw [dM_of (Nat.le_of_ble_eq_true rfl)]
  have b_1 : inb (Int32.ofNat (k)) 80 = true := inb_nat (by omega) (by decide)
  have n_1 : (Int32.ofNat (k)).toNatClampNeg = k := i32_nat (by omega)
  have a : ¬ Int32.ofNat k < 0 := i32_0n (by omega)
  simp -implicitDefEqProofs only [D_211_0, k_211_0, R_211, v_aload_n, v_iload_n, v_callV2, aft_v, aft_n, g_getfield, sv_o, rf_s, sv_a, v_iaload, inI_0, g_ireturn, entL, getL, setL, kL_i, kL_r, isI_s, isR_s, isJ_s, gV_s, iV_i, cs0, cs1, cs2, cs3, cs4, dn_nil, kd_si, kd_sl, kd_sw, mr_si, mr_sl, mr_sw, ml_si, ml_sw, mi_sl, go_k G, go_r0 G, go_r5 G, go_r6 G, go_r7 G, go_r8 G, go_r10 G, go_r12 G, go_r13 G, go_r14 G, go_k201 G, go_k273 G, go_k274 G, go_k276 G, st_k T, st_r6 T, st_r7 T, st_r8 T, st_r9 T, st_r10 T, st_r11 T, st_r12 T, st_r13 T, st_k1 T, st_k2 T, st_k3 T, st_k4 T, st_k5 T, st_k6 T, st_ki T, st_i2 T, st_i3 T, st_i4 T, st_i5 T, st_i6 T, st_k8 T, st_k9 T, st_k10 T, st_k11 T, st_k12 T, st_kb T, st_b2 T, st_b3 T, st_b4 T, st_b5 T, st_b6 T, st_k14 T, st_k15 T, st_k16 T, st_k17 T, st_k18 T, m_246y G T hl a e, b_1, n_1, retX_int]
theorem R_209 : PG.2.1 209 = (some .int) := rfl
theorem x_209 {E : String} : PG.2.2.1 209 E = none := rfl
theorem m_209n {i : Int32} {u d b c : Nat} {h : Mm} (G : GO h u d b c) (T : ST h b) (hl : h.mi 200 4 = 0) : dM PG 209 [.ref 200, .int i] h = some (.inr (exN 0), h.thr) := by
  rw [dM_of (Nat.le_of_ble_eq_true rfl)]
  simp -implicitDefEqProofs only [D_209_0, k_209_0, R_209, v_aload_n, v_iload_n, v_callV2, aft_v, aft_n, g_getfield, sv_o, rf_s, sv_a, v_iaload, inI_0, g_ireturn, entL, getL, setL, kL_i, kL_r, isI_s, isR_s, isJ_s, gV_s, iV_i, cs0, cs1, cs2, cs3, cs4, dn_nil, kd_si, kd_sl, kd_sw, mr_si, mr_sl, mr_sw, ml_si, ml_sw, mi_sl, go_k G, m_246n G T hl, aft_x (x_209)]
theorem m_209x {i : Int32} {u d b c : Nat} {h : Mm} (G : GO h u d b c) (T : ST h b) (hl : ¬ h.mi 200 4 = 0) (hi : i < 0 ∨ ¬ i < h.mi (b + 13) 0) : dM PG 209 [.ref 200, .int i] h = some (.inr (exN 1), h.thr) := by
  rw [dM_of (Nat.le_of_ble_eq_true rfl)]
  simp -implicitDefEqProofs only [D_209_0, k_209_0, R_209, v_aload_n, v_iload_n, v_callV2, aft_v, aft_n, g_getfield, sv_o, rf_s, sv_a, v_iaload, inI_0, g_ireturn, entL, getL, setL, kL_i, kL_r, isI_s, isR_s, isJ_s, gV_s, iV_i, cs0, cs1, cs2, cs3, cs4, dn_nil, kd_si, kd_sl, kd_sw, mr_si, mr_sl, mr_sw, ml_si, ml_sw, mi_sl, go_k G, m_246x G T hl hi, aft_x (x_209)]
theorem m_209y {k : Nat} (hk : k < 80) {u d b c : Nat} {h : Mm} (G : GO h u d b c) (T : ST h b) (hl : ¬ h.mi 200 4 = 0) (e : Int32.ofNat k < h.mi (b + 13) 0) : dM PG 209 [.ref 200, .int (Int32.ofNat k)] h = some (.inl (some (.int (h.mi (b + 18) k))), h) := by
  rw [dM_of (Nat.le_of_ble_eq_true rfl)]
  have b_1 : inb (Int32.ofNat (k)) 80 = true := inb_nat (by omega) (by decide)
  have n_1 : (Int32.ofNat (k)).toNatClampNeg = k := i32_nat (by omega)
  have a : ¬ Int32.ofNat k < 0 := i32_0n (by omega)
  simp -implicitDefEqProofs only [D_209_0, k_209_0, R_209, v_aload_n, v_iload_n, v_callV2, aft_v, aft_n, g_getfield, sv_o, rf_s, sv_a, v_iaload, inI_0, g_ireturn, entL, getL, setL, kL_i, kL_r, isI_s, isR_s, isJ_s, gV_s, iV_i, cs0, cs1, cs2, cs3, cs4, dn_nil, kd_si, kd_sl, kd_sw, mr_si, mr_sl, mr_sw, ml_si, ml_sw, mi_sl, go_k G, go_r0 G, go_r5 G, go_r6 G, go_r7 G, go_r8 G, go_r10 G, go_r12 G, go_r13 G, go_r14 G, go_k201 G, go_k273 G, go_k274 G, go_k276 G, st_k T, st_r6 T, st_r7 T, st_r8 T, st_r9 T, st_r10 T, st_r11 T, st_r12 T, st_r13 T, st_k1 T, st_k2 T, st_k3 T, st_k4 T, st_k5 T, st_k6 T, st_ki T, st_i2 T, st_i3 T, st_i4 T, st_i5 T, st_i6 T, st_k8 T, st_k9 T, st_k10 T, st_k11 T, st_k12 T, st_kb T, st_b2 T, st_b3 T, st_b4 T, st_b5 T, st_b6 T, st_k14 T, st_k15 T, st_k16 T, st_k17 T, st_k18 T, m_246y G T hl a e, b_1, n_1, retX_int]
theorem R_212 : PG.2.1 212 = (some .int) := rfl
theorem x_212 {E : String} : PG.2.2.1 212 E = none := rfl
theorem m_212n {i : Int32} {u d b c : Nat} {h : Mm} (G : GO h u d b c) (T : ST h b) (hl : h.mi 200 4 = 0) : dM PG 212 [.ref 200, .int i] h = some (.inr (exN 0), h.thr) := by
  rw [dM_of (Nat.le_of_ble_eq_true rfl)]
  simp -implicitDefEqProofs only [D_212_0, k_212_0, R_212, v_aload_n, v_iload_n, v_callV2, aft_v, aft_n, g_getfield, sv_o, rf_s, g_ireturn, entL, getL, setL, kL_i, kL_r, isI_s, isR_s, isJ_s, gV_s, iV_i, cs0, cs1, cs2, cs3, cs4, dn_nil, kd_si, kd_sl, kd_sw, mr_si, mr_sl, mr_sw, ml_si, ml_sw, mi_sl, go_k G, m_246n G T hl, aft_x (x_212)]
theorem m_212x {i : Int32} {u d b c : Nat} {h : Mm} (G : GO h u d b c) (T : ST h b) (hl : ¬ h.mi 200 4 = 0) (hi : i < 0 ∨ ¬ i < h.mi (b + 13) 0) : dM PG 212 [.ref 200, .int i] h = some (.inr (exN 1), h.thr) := by
  rw [dM_of (Nat.le_of_ble_eq_true rfl)]
  simp -implicitDefEqProofs only [D_212_0, k_212_0, R_212, v_aload_n, v_iload_n, v_callV2, aft_v, aft_n, g_getfield, sv_o, rf_s, g_ireturn, entL, getL, setL, kL_i, kL_r, isI_s, isR_s, isJ_s, gV_s, iV_i, cs0, cs1, cs2, cs3, cs4, dn_nil, kd_si, kd_sl, kd_sw, mr_si, mr_sl, mr_sw, ml_si, ml_sw, mi_sl, go_k G, m_246x G T hl hi, aft_x (x_212)]
theorem m_212y {k : Nat} (hk : k < 80) {u d b c : Nat} {h : Mm} (G : GO h u d b c) (T : ST h b) (hl : ¬ h.mi 200 4 = 0) (e : Int32.ofNat k < h.mi (b + 13) 0) : dM PG 212 [.ref 200, .int (Int32.ofNat k)] h = some (.inl (some (.int (exF (rowsAt h b) k))), h) := by
  rw [dM_of (Nat.le_of_ble_eq_true rfl)]
  have b_1 : inb (Int32.ofNat (k)) 80 = true := inb_nat (by omega) (by decide)
  have n_1 : (Int32.ofNat (k)).toNatClampNeg = k := i32_nat (by omega)
  have a : ¬ Int32.ofNat k < 0 := i32_0n (by omega)
  have g := m_248 hk T (R := rowsAt h b)
  rw [sb_id] at g
  simp -implicitDefEqProofs only [D_212_0, k_212_0, R_212, v_aload_n, v_iload_n, v_callV2, aft_v, aft_n, g_getfield, sv_o, rf_s, g_ireturn, entL, getL, setL, kL_i, kL_r, isI_s, isR_s, isJ_s, gV_s, iV_i, cs0, cs1, cs2, cs3, cs4, dn_nil, kd_si, kd_sl, kd_sw, mr_si, mr_sl, mr_sw, ml_si, ml_sw, mi_sl, go_k G, go_r0 G, go_r5 G, go_r6 G, go_r7 G, go_r8 G, go_r10 G, go_r12 G, go_r13 G, go_r14 G, go_k201 G, go_k273 G, go_k274 G, go_k276 G, st_k T, st_r6 T, st_r7 T, st_r8 T, st_r9 T, st_r10 T, st_r11 T, st_r12 T, st_r13 T, st_k1 T, st_k2 T, st_k3 T, st_k4 T, st_k5 T, st_k6 T, st_ki T, st_i2 T, st_i3 T, st_i4 T, st_i5 T, st_i6 T, st_k8 T, st_k9 T, st_k10 T, st_k11 T, st_k12 T, st_kb T, st_b2 T, st_b3 T, st_b4 T, st_b5 T, st_b6 T, st_k14 T, st_k15 T, st_k16 T, st_k17 T, st_k18 T, m_246y G T hl a e, b_1, n_1, g, retX_int]
theorem R_206 : PG.2.1 206 = (some .int) := rfl
theorem x_206 {E : String} : PG.2.2.1 206 E = none := rfl
theorem m_206n {i : Int32} {u d b c : Nat} {h : Mm} (G : GO h u d b c) (T : ST h b) (hl : h.mi 200 4 = 0) : dM PG 206 [.ref 200, .int i] h = some (.inr (exN 0), h.thr) := by
  rw [dM_of (Nat.le_of_ble_eq_true rfl)]
  simp -implicitDefEqProofs only [D_206_0, k_206_0, R_206, v_aload_n, v_iload_n, v_callV2, aft_v, aft_n, g_getfield, sv_o, rf_s, g_ireturn, entL, getL, setL, kL_i, kL_r, isI_s, isR_s, isJ_s, gV_s, iV_i, cs0, cs1, cs2, cs3, cs4, dn_nil, kd_si, kd_sl, kd_sw, mr_si, mr_sl, mr_sw, ml_si, ml_sw, mi_sl, go_k G, m_246n G T hl, aft_x (x_206)]
theorem m_206x {i : Int32} {u d b c : Nat} {h : Mm} (G : GO h u d b c) (T : ST h b) (hl : ¬ h.mi 200 4 = 0) (hi : i < 0 ∨ ¬ i < h.mi (b + 13) 0) : dM PG 206 [.ref 200, .int i] h = some (.inr (exN 1), h.thr) := by
  rw [dM_of (Nat.le_of_ble_eq_true rfl)]
  simp -implicitDefEqProofs only [D_206_0, k_206_0, R_206, v_aload_n, v_iload_n, v_callV2, aft_v, aft_n, g_getfield, sv_o, rf_s, g_ireturn, entL, getL, setL, kL_i, kL_r, isI_s, isR_s, isJ_s, gV_s, iV_i, cs0, cs1, cs2, cs3, cs4, dn_nil, kd_si, kd_sl, kd_sw, mr_si, mr_sl, mr_sw, ml_si, ml_sw, mi_sl, go_k G, m_246x G T hl hi, aft_x (x_206)]
theorem m_206y {k : Nat} (hk : k < 80) {u d b c : Nat} {h : Mm} (G : GO h u d b c) (T : ST h b) (hl : ¬ h.mi 200 4 = 0) (e : Int32.ofNat k < h.mi (b + 13) 0) {n : Nat} (hn : n ≤ 80) (h13 : h.mi (b + 13) 0 = Int32.ofNat n) : dM PG 206 [.ref 200, .int (Int32.ofNat k)] h = some (.inl (some (.int (oN (fnd (fun j => decide (worN (rowsAt h b) n j = Int32.ofNat k)) n 0)))), h) := by
  rw [dM_of (Nat.le_of_ble_eq_true rfl)]
  have b_1 : inb (Int32.ofNat (k)) 80 = true := inb_nat (by omega) (by decide)
  have n_1 : (Int32.ofNat (k)).toNatClampNeg = k := i32_nat (by omega)
  have a : ¬ Int32.ofNat k < 0 := i32_0n (by omega)
  have g := m_284 (x := Int32.ofNat k) hn T (R := rowsAt h b) h13
  rw [sb_id] at g
  simp -implicitDefEqProofs only [D_206_0, k_206_0, R_206, v_aload_n, v_iload_n, v_callV2, aft_v, aft_n, g_getfield, sv_o, rf_s, g_ireturn, entL, getL, setL, kL_i, kL_r, isI_s, isR_s, isJ_s, gV_s, iV_i, cs0, cs1, cs2, cs3, cs4, dn_nil, kd_si, kd_sl, kd_sw, mr_si, mr_sl, mr_sw, ml_si, ml_sw, mi_sl, go_k G, go_r0 G, go_r5 G, go_r6 G, go_r7 G, go_r8 G, go_r10 G, go_r12 G, go_r13 G, go_r14 G, go_k201 G, go_k273 G, go_k274 G, go_k276 G, st_k T, st_r6 T, st_r7 T, st_r8 T, st_r9 T, st_r10 T, st_r11 T, st_r12 T, st_r13 T, st_k1 T, st_k2 T, st_k3 T, st_k4 T, st_k5 T, st_k6 T, st_ki T, st_i2 T, st_i3 T, st_i4 T, st_i5 T, st_i6 T, st_k8 T, st_k9 T, st_k10 T, st_k11 T, st_k12 T, st_kb T, st_b2 T, st_b3 T, st_b4 T, st_b5 T, st_b6 T, st_k14 T, st_k15 T, st_k16 T, st_k17 T, st_k18 T, m_246y G T hl a e, b_1, n_1, g, retX_int]
theorem R_199 : PG.2.1 199 = (some .int) := rfl
theorem x_199 {E : String} : PG.2.2.1 199 E = none := rfl
theorem m_199n {i : Int32} {u d b c : Nat} {h : Mm} (G : GO h u d b c) (U : SU h u) (hl : h.mi 200 4 = 0) : dM PG 199 [.ref 200, .int i] h = some (.inr (exN 0), h.thr) := by
  rw [dM_of (Nat.le_of_ble_eq_true rfl)]
  simp -implicitDefEqProofs only [D_199_0, k_199_0, R_199, v_aload_n, v_iload_n, v_callV2, aft_v, aft_n, g_getfield, sv_o, rf_s, sv_a, v_iaload, inI_0, g_ireturn, entL, getL, setL, kL_i, kL_r, isI_s, isR_s, isJ_s, gV_s, iV_i, cs0, cs1, cs2, cs3, cs4, dn_nil, kd_si, kd_sl, kd_sw, mr_si, mr_sl, mr_sw, ml_si, ml_sw, mi_sl, go_k G, m_250n G U hl, aft_x (x_199)]
theorem m_199x {i : Int32} {u d b c : Nat} {h : Mm} (G : GO h u d b c) (U : SU h u) (hl : ¬ h.mi 200 4 = 0) (hi : i < 0 ∨ ¬ i < h.mi u 11) : dM PG 199 [.ref 200, .int i] h = some (.inr (exN 1), h.thr) := by
  rw [dM_of (Nat.le_of_ble_eq_true rfl)]
  simp -implicitDefEqProofs only [D_199_0, k_199_0, R_199, v_aload_n, v_iload_n, v_callV2, aft_v, aft_n, g_getfield, sv_o, rf_s, sv_a, v_iaload, inI_0, g_ireturn, entL, getL, setL, kL_i, kL_r, isI_s, isR_s, isJ_s, gV_s, iV_i, cs0, cs1, cs2, cs3, cs4, dn_nil, kd_si, kd_sl, kd_sw, mr_si, mr_sl, mr_sw, ml_si, ml_sw, mi_sl, go_k G, m_250x G U hl hi, aft_x (x_199)]
theorem m_199y {k : Nat} (hk : k < 4) {u d b c : Nat} {h : Mm} (G : GO h u d b c) (U : SU h u) (T : ST h b) (hl : ¬ h.mi 200 4 = 0) (e : Int32.ofNat k < h.mi u 11) : dM PG 199 [.ref 200, .int (Int32.ofNat k)] h = some (.inl (some (.int (h.mi (b + 4) k))), h) := by
  rw [dM_of (Nat.le_of_ble_eq_true rfl)]
  have b_1 : inb (Int32.ofNat (k)) 4 = true := inb_nat (by omega) (by decide)
  have n_1 : (Int32.ofNat (k)).toNatClampNeg = k := i32_nat (by omega)
  have a : ¬ Int32.ofNat k < 0 := i32_0n (by omega)
  simp -implicitDefEqProofs only [D_199_0, k_199_0, R_199, v_aload_n, v_iload_n, v_callV2, aft_v, aft_n, g_getfield, sv_o, rf_s, sv_a, v_iaload, inI_0, g_ireturn, entL, getL, setL, kL_i, kL_r, isI_s, isR_s, isJ_s, gV_s, iV_i, cs0, cs1, cs2, cs3, cs4, dn_nil, kd_si, kd_sl, kd_sw, mr_si, mr_sl, mr_sw, ml_si, ml_sw, mi_sl, go_k G, go_r0 G, go_r5 G, go_r6 G, go_r7 G, go_r8 G, go_r10 G, go_r12 G, go_r13 G, go_r14 G, go_k201 G, go_k273 G, go_k274 G, go_k276 G, st_k T, st_r6 T, st_r7 T, st_r8 T, st_r9 T, st_r10 T, st_r11 T, st_r12 T, st_r13 T, st_k1 T, st_k2 T, st_k3 T, st_k4 T, st_k5 T, st_k6 T, st_ki T, st_i2 T, st_i3 T, st_i4 T, st_i5 T, st_i6 T, st_k8 T, st_k9 T, st_k10 T, st_k11 T, st_k12 T, st_kb T, st_b2 T, st_b3 T, st_b4 T, st_b5 T, st_b6 T, st_k14 T, st_k15 T, st_k16 T, st_k17 T, st_k18 T, m_250y G U hl a e, b_1, n_1, retX_int]
theorem R_198 : PG.2.1 198 = (some .int) := rfl
theorem x_198 {E : String} : PG.2.2.1 198 E = none := rfl
theorem m_198n {i : Int32} {u d b c : Nat} {h : Mm} (G : GO h u d b c) (U : SU h u) (hl : h.mi 200 4 = 0) : dM PG 198 [.ref 200, .int i] h = some (.inr (exN 0), h.thr) := by
  rw [dM_of (Nat.le_of_ble_eq_true rfl)]
  simp -implicitDefEqProofs only [D_198_0, k_198_0, R_198, v_aload_n, v_iload_n, v_callV2, aft_v, aft_n, g_getfield, sv_o, rf_s, sv_a, v_iaload, inI_0, g_ireturn, entL, getL, setL, kL_i, kL_r, isI_s, isR_s, isJ_s, gV_s, iV_i, cs0, cs1, cs2, cs3, cs4, dn_nil, kd_si, kd_sl, kd_sw, mr_si, mr_sl, mr_sw, ml_si, ml_sw, mi_sl, go_k G, m_250n G U hl, aft_x (x_198)]
theorem m_198x {i : Int32} {u d b c : Nat} {h : Mm} (G : GO h u d b c) (U : SU h u) (hl : ¬ h.mi 200 4 = 0) (hi : i < 0 ∨ ¬ i < h.mi u 11) : dM PG 198 [.ref 200, .int i] h = some (.inr (exN 1), h.thr) := by
  rw [dM_of (Nat.le_of_ble_eq_true rfl)]
  simp -implicitDefEqProofs only [D_198_0, k_198_0, R_198, v_aload_n, v_iload_n, v_callV2, aft_v, aft_n, g_getfield, sv_o, rf_s, sv_a, v_iaload, inI_0, g_ireturn, entL, getL, setL, kL_i, kL_r, isI_s, isR_s, isJ_s, gV_s, iV_i, cs0, cs1, cs2, cs3, cs4, dn_nil, kd_si, kd_sl, kd_sw, mr_si, mr_sl, mr_sw, ml_si, ml_sw, mi_sl, go_k G, m_250x G U hl hi, aft_x (x_198)]
theorem m_198y {k : Nat} (hk : k < 4) {u d b c : Nat} {h : Mm} (G : GO h u d b c) (U : SU h u) (T : ST h b) (hl : ¬ h.mi 200 4 = 0) (e : Int32.ofNat k < h.mi u 11) : dM PG 198 [.ref 200, .int (Int32.ofNat k)] h = some (.inl (some (.int (h.mi (b + 5) k))), h) := by
  rw [dM_of (Nat.le_of_ble_eq_true rfl)]
  have b_1 : inb (Int32.ofNat (k)) 4 = true := inb_nat (by omega) (by decide)
  have n_1 : (Int32.ofNat (k)).toNatClampNeg = k := i32_nat (by omega)
  have a : ¬ Int32.ofNat k < 0 := i32_0n (by omega)
  simp -implicitDefEqProofs only [D_198_0, k_198_0, R_198, v_aload_n, v_iload_n, v_callV2, aft_v, aft_n, g_getfield, sv_o, rf_s, sv_a, v_iaload, inI_0, g_ireturn, entL, getL, setL, kL_i, kL_r, isI_s, isR_s, isJ_s, gV_s, iV_i, cs0, cs1, cs2, cs3, cs4, dn_nil, kd_si, kd_sl, kd_sw, mr_si, mr_sl, mr_sw, ml_si, ml_sw, mi_sl, go_k G, go_r0 G, go_r5 G, go_r6 G, go_r7 G, go_r8 G, go_r10 G, go_r12 G, go_r13 G, go_r14 G, go_k201 G, go_k273 G, go_k274 G, go_k276 G, st_k T, st_r6 T, st_r7 T, st_r8 T, st_r9 T, st_r10 T, st_r11 T, st_r12 T, st_r13 T, st_k1 T, st_k2 T, st_k3 T, st_k4 T, st_k5 T, st_k6 T, st_ki T, st_i2 T, st_i3 T, st_i4 T, st_i5 T, st_i6 T, st_k8 T, st_k9 T, st_k10 T, st_k11 T, st_k12 T, st_kb T, st_b2 T, st_b3 T, st_b4 T, st_b5 T, st_b6 T, st_k14 T, st_k15 T, st_k16 T, st_k17 T, st_k18 T, m_250y G U hl a e, b_1, n_1, retX_int]
theorem R_197 : PG.2.1 197 = (some .int) := rfl
theorem x_197 {E : String} : PG.2.2.1 197 E = none := rfl
theorem m_197n {i : Int32} {u d b c : Nat} {h : Mm} (G : GO h u d b c) (U : SU h u) (hl : h.mi 200 4 = 0) : dM PG 197 [.ref 200, .int i] h = some (.inr (exN 0), h.thr) := by
  rw [dM_of (Nat.le_of_ble_eq_true rfl)]
  simp -implicitDefEqProofs only [D_197_0, k_197_0, R_197, v_aload_n, v_iload_n, v_callV2, aft_v, aft_n, g_getfield, sv_o, rf_s, sv_a, v_iaload, inI_0, g_ireturn, entL, getL, setL, kL_i, kL_r, isI_s, isR_s, isJ_s, gV_s, iV_i, cs0, cs1, cs2, cs3, cs4, dn_nil, kd_si, kd_sl, kd_sw, mr_si, mr_sl, mr_sw, ml_si, ml_sw, mi_sl, go_k G, m_250n G U hl, aft_x (x_197)]
theorem m_197x {i : Int32} {u d b c : Nat} {h : Mm} (G : GO h u d b c) (U : SU h u) (hl : ¬ h.mi 200 4 = 0) (hi : i < 0 ∨ ¬ i < h.mi u 11) : dM PG 197 [.ref 200, .int i] h = some (.inr (exN 1), h.thr) := by
  rw [dM_of (Nat.le_of_ble_eq_true rfl)]
  simp -implicitDefEqProofs only [D_197_0, k_197_0, R_197, v_aload_n, v_iload_n, v_callV2, aft_v, aft_n, g_getfield, sv_o, rf_s, sv_a, v_iaload, inI_0, g_ireturn, entL, getL, setL, kL_i, kL_r, isI_s, isR_s, isJ_s, gV_s, iV_i, cs0, cs1, cs2, cs3, cs4, dn_nil, kd_si, kd_sl, kd_sw, mr_si, mr_sl, mr_sw, ml_si, ml_sw, mi_sl, go_k G, m_250x G U hl hi, aft_x (x_197)]
theorem m_197y {k : Nat} (hk : k < 4) {u d b c : Nat} {h : Mm} (G : GO h u d b c) (U : SU h u) (T : ST h b) (hl : ¬ h.mi 200 4 = 0) (e : Int32.ofNat k < h.mi u 11) : dM PG 197 [.ref 200, .int (Int32.ofNat k)] h = some (.inl (some (.int (h.mi (b + 3) k))), h) := by
  rw [dM_of (Nat.le_of_ble_eq_true rfl)]
  have b_1 : inb (Int32.ofNat (k)) 4 = true := inb_nat (by omega) (by decide)
  have n_1 : (Int32.ofNat (k)).toNatClampNeg = k := i32_nat (by omega)
  have a : ¬ Int32.ofNat k < 0 := i32_0n (by omega)
  simp -implicitDefEqProofs only [D_197_0, k_197_0, R_197, v_aload_n, v_iload_n, v_callV2, aft_v, aft_n, g_getfield, sv_o, rf_s, sv_a, v_iaload, inI_0, g_ireturn, entL, getL, setL, kL_i, kL_r, isI_s, isR_s, isJ_s, gV_s, iV_i, cs0, cs1, cs2, cs3, cs4, dn_nil, kd_si, kd_sl, kd_sw, mr_si, mr_sl, mr_sw, ml_si, ml_sw, mi_sl, go_k G, go_r0 G, go_r5 G, go_r6 G, go_r7 G, go_r8 G, go_r10 G, go_r12 G, go_r13 G, go_r14 G, go_k201 G, go_k273 G, go_k274 G, go_k276 G, st_k T, st_r6 T, st_r7 T, st_r8 T, st_r9 T, st_r10 T, st_r11 T, st_r12 T, st_r13 T, st_k1 T, st_k2 T, st_k3 T, st_k4 T, st_k5 T, st_k6 T, st_ki T, st_i2 T, st_i3 T, st_i4 T, st_i5 T, st_i6 T, st_k8 T, st_k9 T, st_k10 T, st_k11 T, st_k12 T, st_kb T, st_b2 T, st_b3 T, st_b4 T, st_b5 T, st_b6 T, st_k14 T, st_k15 T, st_k16 T, st_k17 T, st_k18 T, m_250y G U hl a e, b_1, n_1, retX_int]
theorem R_195 : PG.2.1 195 = (some .int) := rfl
theorem x_195 {E : String} : PG.2.2.1 195 E = none := rfl
theorem m_195n {i : Int32} {u d b c : Nat} {h : Mm} (G : GO h u d b c) (U : SU h u) (hl : h.mi 200 4 = 0) : dM PG 195 [.ref 200, .int i] h = some (.inr (exN 0), h.thr) := by
  rw [dM_of (Nat.le_of_ble_eq_true rfl)]
  simp -implicitDefEqProofs only [D_195_0, k_195_0, R_195, v_aload_n, v_iload_n, v_callV2, aft_v, aft_n, g_getfield, sv_o, rf_s, sv_a, v_iaload, inI_0, g_ireturn, entL, getL, setL, kL_i, kL_r, isI_s, isR_s, isJ_s, gV_s, iV_i, cs0, cs1, cs2, cs3, cs4, dn_nil, kd_si, kd_sl, kd_sw, mr_si, mr_sl, mr_sw, ml_si, ml_sw, mi_sl, go_k G, m_250n G U hl, aft_x (x_195)]
theorem m_195x {i : Int32} {u d b c : Nat} {h : Mm} (G : GO h u d b c) (U : SU h u) (hl : ¬ h.mi 200 4 = 0) (hi : i < 0 ∨ ¬ i < h.mi u 11) : dM PG 195 [.ref 200, .int i] h = some (.inr (exN 1), h.thr) := by
  rw [dM_of (Nat.le_of_ble_eq_true rfl)]
  simp -implicitDefEqProofs only [D_195_0, k_195_0, R_195, v_aload_n, v_iload_n, v_callV2, aft_v, aft_n, g_getfield, sv_o, rf_s, sv_a, v_iaload, inI_0, g_ireturn, entL, getL, setL, kL_i, kL_r, isI_s, isR_s, isJ_s, gV_s, iV_i, cs0, cs1, cs2, cs3, cs4, dn_nil, kd_si, kd_sl, kd_sw, mr_si, mr_sl, mr_sw, ml_si, ml_sw, mi_sl, go_k G, m_250x G U hl hi, aft_x (x_195)]
theorem m_195y {k : Nat} (hk : k < 4) {u d b c : Nat} {h : Mm} (G : GO h u d b c) (U : SU h u) (T : ST h b) (hl : ¬ h.mi 200 4 = 0) (e : Int32.ofNat k < h.mi u 11) : dM PG 195 [.ref 200, .int (Int32.ofNat k)] h = some (.inl (some (.int (h.mi (b + 2) k))), h) := by
  rw [dM_of (Nat.le_of_ble_eq_true rfl)]
  have b_1 : inb (Int32.ofNat (k)) 4 = true := inb_nat (by omega) (by decide)
  have n_1 : (Int32.ofNat (k)).toNatClampNeg = k := i32_nat (by omega)
  have a : ¬ Int32.ofNat k < 0 := i32_0n (by omega)
  simp -implicitDefEqProofs only [D_195_0, k_195_0, R_195, v_aload_n, v_iload_n, v_callV2, aft_v, aft_n, g_getfield, sv_o, rf_s, sv_a, v_iaload, inI_0, g_ireturn, entL, getL, setL, kL_i, kL_r, isI_s, isR_s, isJ_s, gV_s, iV_i, cs0, cs1, cs2, cs3, cs4, dn_nil, kd_si, kd_sl, kd_sw, mr_si, mr_sl, mr_sw, ml_si, ml_sw, mi_sl, go_k G, go_r0 G, go_r5 G, go_r6 G, go_r7 G, go_r8 G, go_r10 G, go_r12 G, go_r13 G, go_r14 G, go_k201 G, go_k273 G, go_k274 G, go_k276 G, st_k T, st_r6 T, st_r7 T, st_r8 T, st_r9 T, st_r10 T, st_r11 T, st_r12 T, st_r13 T, st_k1 T, st_k2 T, st_k3 T, st_k4 T, st_k5 T, st_k6 T, st_ki T, st_i2 T, st_i3 T, st_i4 T, st_i5 T, st_i6 T, st_k8 T, st_k9 T, st_k10 T, st_k11 T, st_k12 T, st_kb T, st_b2 T, st_b3 T, st_b4 T, st_b5 T, st_b6 T, st_k14 T, st_k15 T, st_k16 T, st_k17 T, st_k18 T, m_250y G U hl a e, b_1, n_1, retX_int]
theorem R_194 : PG.2.1 194 = (some .int) := rfl
theorem x_194 {E : String} : PG.2.2.1 194 E = none := rfl
theorem m_194n {i : Int32} {u d b c : Nat} {h : Mm} (G : GO h u d b c) (U : SU h u) (hl : h.mi 200 4 = 0) : dM PG 194 [.ref 200, .int i] h = some (.inr (exN 0), h.thr) := by
  rw [dM_of (Nat.le_of_ble_eq_true rfl)]
  simp -implicitDefEqProofs only [D_194_0, k_194_0, R_194, v_aload_n, v_iload_n, v_callV2, aft_v, aft_n, g_getfield, sv_o, rf_s, g_ireturn, entL, getL, setL, kL_i, kL_r, isI_s, isR_s, isJ_s, gV_s, iV_i, cs0, cs1, cs2, cs3, cs4, dn_nil, kd_si, kd_sl, kd_sw, mr_si, mr_sl, mr_sw, ml_si, ml_sw, mi_sl, go_k G, m_250n G U hl, aft_x (x_194)]
theorem m_194x {i : Int32} {u d b c : Nat} {h : Mm} (G : GO h u d b c) (U : SU h u) (hl : ¬ h.mi 200 4 = 0) (hi : i < 0 ∨ ¬ i < h.mi u 11) : dM PG 194 [.ref 200, .int i] h = some (.inr (exN 1), h.thr) := by
  rw [dM_of (Nat.le_of_ble_eq_true rfl)]
  simp -implicitDefEqProofs only [D_194_0, k_194_0, R_194, v_aload_n, v_iload_n, v_callV2, aft_v, aft_n, g_getfield, sv_o, rf_s, g_ireturn, entL, getL, setL, kL_i, kL_r, isI_s, isR_s, isJ_s, gV_s, iV_i, cs0, cs1, cs2, cs3, cs4, dn_nil, kd_si, kd_sl, kd_sw, mr_si, mr_sl, mr_sw, ml_si, ml_sw, mi_sl, go_k G, m_250x G U hl hi, aft_x (x_194)]
theorem m_194y {k : Nat} (hk : k < 4) {u d b c : Nat} {h : Mm} (G : GO h u d b c) (U : SU h u) (T : ST h b) (hl : ¬ h.mi 200 4 = 0) (e : Int32.ofNat k < h.mi u 11) {n : Nat} (hn : n ≤ 80) (h13 : h.mi (b + 13) 0 = Int32.ofNat n) : dM PG 194 [.ref 200, .int (Int32.ofNat k)] h = some (.inl (some (.int (fl (exO (rowsAt h b) (Int32.ofNat k)) n 0 0))), h) := by
  rw [dM_of (Nat.le_of_ble_eq_true rfl)]
  have b_1 : inb (Int32.ofNat (k)) 4 = true := inb_nat (by omega) (by decide)
  have n_1 : (Int32.ofNat (k)).toNatClampNeg = k := i32_nat (by omega)
  have a : ¬ Int32.ofNat k < 0 := i32_0n (by omega)
  have g := m_280 (x := Int32.ofNat k) hn T (R := rowsAt h b) h13
  rw [sb_id] at g
  simp -implicitDefEqProofs only [D_194_0, k_194_0, R_194, v_aload_n, v_iload_n, v_callV2, aft_v, aft_n, g_getfield, sv_o, rf_s, g_ireturn, entL, getL, setL, kL_i, kL_r, isI_s, isR_s, isJ_s, gV_s, iV_i, cs0, cs1, cs2, cs3, cs4, dn_nil, kd_si, kd_sl, kd_sw, mr_si, mr_sl, mr_sw, ml_si, ml_sw, mi_sl, go_k G, go_r0 G, go_r5 G, go_r6 G, go_r7 G, go_r8 G, go_r10 G, go_r12 G, go_r13 G, go_r14 G, go_k201 G, go_k273 G, go_k274 G, go_k276 G, st_k T, st_r6 T, st_r7 T, st_r8 T, st_r9 T, st_r10 T, st_r11 T, st_r12 T, st_r13 T, st_k1 T, st_k2 T, st_k3 T, st_k4 T, st_k5 T, st_k6 T, st_ki T, st_i2 T, st_i3 T, st_i4 T, st_i5 T, st_i6 T, st_k8 T, st_k9 T, st_k10 T, st_k11 T, st_k12 T, st_kb T, st_b2 T, st_b3 T, st_b4 T, st_b5 T, st_b6 T, st_k14 T, st_k15 T, st_k16 T, st_k17 T, st_k18 T, m_250y G U hl a e, b_1, n_1, g, retX_int]
theorem R_193 : PG.2.1 193 = (some .int) := rfl
theorem x_193 {E : String} : PG.2.2.1 193 E = none := rfl
theorem m_193n {i : Int32} {u d b c : Nat} {h : Mm} (G : GO h u d b c) (U : SU h u) (hl : h.mi 200 4 = 0) : dM PG 193 [.ref 200, .int i] h = some (.inr (exN 0), h.thr) := by
  rw [dM_of (Nat.le_of_ble_eq_true rfl)]
  simp -implicitDefEqProofs only [D_193_0, k_193_0, R_193, v_aload_n, v_iload_n, v_callV2, aft_v, aft_n, g_getfield, sv_o, rf_s, v_callV3, g_ireturn, entL, getL, setL, kL_i, kL_r, isI_s, isR_s, isJ_s, gV_s, iV_i, cs0, cs1, cs2, cs3, cs4, dn_nil, kd_si, kd_sl, kd_sw, mr_si, mr_sl, mr_sw, ml_si, ml_sw, mi_sl, go_k G, m_250n G U hl, aft_x (x_193)]
theorem m_193x {i : Int32} {u d b c : Nat} {h : Mm} (G : GO h u d b c) (U : SU h u) (hl : ¬ h.mi 200 4 = 0) (hi : i < 0 ∨ ¬ i < h.mi u 11) : dM PG 193 [.ref 200, .int i] h = some (.inr (exN 1), h.thr) := by
  rw [dM_of (Nat.le_of_ble_eq_true rfl)]
  simp -implicitDefEqProofs only [D_193_0, k_193_0, R_193, v_aload_n, v_iload_n, v_callV2, aft_v, aft_n, g_getfield, sv_o, rf_s, v_callV3, g_ireturn, entL, getL, setL, kL_i, kL_r, isI_s, isR_s, isJ_s, gV_s, iV_i, cs0, cs1, cs2, cs3, cs4, dn_nil, kd_si, kd_sl, kd_sw, mr_si, mr_sl, mr_sw, ml_si, ml_sw, mi_sl, go_k G, m_250x G U hl hi, aft_x (x_193)]
theorem m_193y {k : Nat} (hk : k < 4) {u d b c : Nat} {h : Mm} (G : GO h u d b c) (U : SU h u) (T : ST h b) (hl : ¬ h.mi 200 4 = 0) (e : Int32.ofNat k < h.mi u 11) {n : Nat} (hub : u + 7 ≤ b) (hn : n ≤ 80) (h13 : h.mi (b + 13) 0 = Int32.ofNat n) : dM PG 193 [.ref 200, .int (Int32.ofNat k)] h = some (.inl (some (.int (erF (h.mi u 6) (h.mi (u + 3 + k) 2) (rowsAt h b) k n))), h) := by
  rw [dM_of (Nat.le_of_ble_eq_true rfl)]
  have b_1 : inb (Int32.ofNat (k)) 4 = true := inb_nat (by omega) (by decide)
  have n_1 : (Int32.ofNat (k)).toNatClampNeg = k := i32_nat (by omega)
  have a : ¬ Int32.ofNat k < 0 := i32_0n (by omega)
  have g := m_282 hub hk hn T U (R := rowsAt h b) h13
  rw [sb_id] at g
  simp -implicitDefEqProofs only [D_193_0, k_193_0, R_193, v_aload_n, v_iload_n, v_callV2, aft_v, aft_n, g_getfield, sv_o, rf_s, v_callV3, g_ireturn, entL, getL, setL, kL_i, kL_r, isI_s, isR_s, isJ_s, gV_s, iV_i, cs0, cs1, cs2, cs3, cs4, dn_nil, kd_si, kd_sl, kd_sw, mr_si, mr_sl, mr_sw, ml_si, ml_sw, mi_sl, go_k G, go_r0 G, go_r5 G, go_r6 G, go_r7 G, go_r8 G, go_r10 G, go_r12 G, go_r13 G, go_r14 G, go_k201 G, go_k273 G, go_k274 G, go_k276 G, st_k T, st_r6 T, st_r7 T, st_r8 T, st_r9 T, st_r10 T, st_r11 T, st_r12 T, st_r13 T, st_k1 T, st_k2 T, st_k3 T, st_k4 T, st_k5 T, st_k6 T, st_ki T, st_i2 T, st_i3 T, st_i4 T, st_i5 T, st_i6 T, st_k8 T, st_k9 T, st_k10 T, st_k11 T, st_k12 T, st_kb T, st_b2 T, st_b3 T, st_b4 T, st_b5 T, st_b6 T, st_k14 T, st_k15 T, st_k16 T, st_k17 T, st_k18 T, m_250y G U hl a e, b_1, n_1, g, retX_int]
theorem R_205 : PG.2.1 205 = (some .int) := rfl
theorem x_205 {E : String} : PG.2.2.1 205 E = none := rfl
theorem m_205n {i : Int32} {u d b c : Nat} {h : Mm} (G : GO h u d b c) (T : ST h b) (hl : h.mi 200 4 = 0) : dM PG 205 [.ref 200, .int i] h = some (.inr (exN 0), h.thr) := by
  rw [dM_of (Nat.le_of_ble_eq_true rfl)]
  simp -implicitDefEqProofs only [D_205_0, k_205_0, R_205, v_aload_n, v_iload_n, v_callV2, aft_v, aft_n, g_getfield, sv_o, rf_s, sv_a, v_iaload, inI_0, g_ireturn, entL, getL, setL, kL_i, kL_r, isI_s, isR_s, isJ_s, gV_s, iV_i, cs0, cs1, cs2, cs3, cs4, dn_nil, kd_si, kd_sl, kd_sw, mr_si, mr_sl, mr_sw, ml_si, ml_sw, mi_sl, go_k G, m_260n G T hl, aft_x (x_205)]
theorem m_205x {i : Int32} {u d b c : Nat} {h : Mm} (G : GO h u d b c) (T : ST h b) (hl : ¬ h.mi 200 4 = 0) (hi : i < 0 ∨ ¬ i < h.mi b 5) : dM PG 205 [.ref 200, .int i] h = some (.inr (exN 1), h.thr) := by
  rw [dM_of (Nat.le_of_ble_eq_true rfl)]
  simp -implicitDefEqProofs only [D_205_0, k_205_0, R_205, v_aload_n, v_iload_n, v_callV2, aft_v, aft_n, g_getfield, sv_o, rf_s, sv_a, v_iaload, inI_0, g_ireturn, entL, getL, setL, kL_i, kL_r, isI_s, isR_s, isJ_s, gV_s, iV_i, cs0, cs1, cs2, cs3, cs4, dn_nil, kd_si, kd_sl, kd_sw, mr_si, mr_sl, mr_sw, ml_si, ml_sw, mi_sl, go_k G, m_260x G T hl hi, aft_x (x_205)]
theorem m_205y {k : Nat} (hk : k < 10) {u d b c : Nat} {h : Mm} (G : GO h u d b c) (T : ST h b) (hl : ¬ h.mi 200 4 = 0) (e : Int32.ofNat k < h.mi b 5) : dM PG 205 [.ref 200, .int (Int32.ofNat k)] h = some (.inl (some (.int (h.mi (b + 1) k))), h) := by
  rw [dM_of (Nat.le_of_ble_eq_true rfl)]
  have b_1 : inb (Int32.ofNat (k)) 10 = true := inb_nat (by omega) (by decide)
  have n_1 : (Int32.ofNat (k)).toNatClampNeg = k := i32_nat (by omega)
  have a : ¬ Int32.ofNat k < 0 := i32_0n (by omega)
  simp -implicitDefEqProofs only [D_205_0, k_205_0, R_205, v_aload_n, v_iload_n, v_callV2, aft_v, aft_n, g_getfield, sv_o, rf_s, sv_a, v_iaload, inI_0, g_ireturn, entL, getL, setL, kL_i, kL_r, isI_s, isR_s, isJ_s, gV_s, iV_i, cs0, cs1, cs2, cs3, cs4, dn_nil, kd_si, kd_sl, kd_sw, mr_si, mr_sl, mr_sw, ml_si, ml_sw, mi_sl, go_k G, go_r0 G, go_r5 G, go_r6 G, go_r7 G, go_r8 G, go_r10 G, go_r12 G, go_r13 G, go_r14 G, go_k201 G, go_k273 G, go_k274 G, go_k276 G, st_k T, st_r6 T, st_r7 T, st_r8 T, st_r9 T, st_r10 T, st_r11 T, st_r12 T, st_r13 T, st_k1 T, st_k2 T, st_k3 T, st_k4 T, st_k5 T, st_k6 T, st_ki T, st_i2 T, st_i3 T, st_i4 T, st_i5 T, st_i6 T, st_k8 T, st_k9 T, st_k10 T, st_k11 T, st_k12 T, st_kb T, st_b2 T, st_b3 T, st_b4 T, st_b5 T, st_b6 T, st_k14 T, st_k15 T, st_k16 T, st_k17 T, st_k18 T, m_260y G T hl a e, b_1, n_1, retX_int]
theorem R_120 : PG.2.1 120 = (some .int) := rfl
theorem m_120 {u d b c : Nat} {h : Mm} (G : GO h u d b c) (T : ST h b) : dM PG 120 [.ref 200] h = some (.inl (some (.int (if h.mi 200 4 = 0 then 0 else h.mi (b + 7) 0))), h) := by
  rw [dM_of (Nat.le_of_ble_eq_true rfl)]
  by_cases a : h.mi 200 4 = 0
  · simp -implicitDefEqProofs only [D_120_0, k_120_0, D_120_20, k_120_20, D_120_21, k_120_21, R_120, v_aload_n, g_getfield, sv_z, rf_s, g_if_eq, sv_o, sv_i, g_goto, g_iconst, g_ireturn, entL, getL, setL, kL_i, kL_r, isI_s, isR_s, isJ_s, gV_s, iV_i, cs0, cs1, cs2, cs3, cs4, dn_nil, kd_si, kd_sl, kd_sw, mr_si, mr_sl, mr_sw, ml_si, ml_sw, mi_sl, go_k G, go_r0 G, go_r5 G, go_r6 G, go_r7 G, go_r8 G, go_r10 G, go_r12 G, go_r13 G, go_r14 G, go_k201 G, go_k273 G, go_k274 G, go_k276 G, ↓if_pos a, if_pos a, retX_int]
  · simp -implicitDefEqProofs only [D_120_0, k_120_0, D_120_20, k_120_20, D_120_21, k_120_21, R_120, v_aload_n, g_getfield, sv_z, rf_s, g_if_eq, sv_o, sv_i, g_goto, g_iconst, g_ireturn, entL, getL, setL, kL_i, kL_r, isI_s, isR_s, isJ_s, gV_s, iV_i, cs0, cs1, cs2, cs3, cs4, dn_nil, kd_si, kd_sl, kd_sw, mr_si, mr_sl, mr_sw, ml_si, ml_sw, mi_sl, go_k G, go_r0 G, go_r5 G, go_r6 G, go_r7 G, go_r8 G, go_r10 G, go_r12 G, go_r13 G, go_r14 G, go_k201 G, go_k273 G, go_k274 G, go_k276 G, st_k T, st_r6 T, st_r7 T, st_r8 T, st_r9 T, st_r10 T, st_r11 T, st_r12 T, st_r13 T, st_k1 T, st_k2 T, st_k3 T, st_k4 T, st_k5 T, st_k6 T, st_ki T, st_i2 T, st_i3 T, st_i4 T, st_i5 T, st_i6 T, st_k8 T, st_k9 T, st_k10 T, st_k11 T, st_k12 T, st_kb T, st_b2 T, st_b3 T, st_b4 T, st_b5 T, st_b6 T, st_k14 T, st_k15 T, st_k16 T, st_k17 T, st_k18 T, ↓if_neg a, if_neg a, retX_int]
theorem R_118 : PG.2.1 118 = (some .int) := rfl
theorem m_118 {u d b c : Nat} {h : Mm} (G : GO h u d b c) (U : SU h u) : dM PG 118 [.ref 200] h = some (.inl (some (.int (if h.mi 200 4 = 0 then 0 else h.mi u 11))), h) := by
  rw [dM_of (Nat.le_of_ble_eq_true rfl)]
  by_cases a : h.mi 200 4 = 0
  · simp -implicitDefEqProofs only [D_118_0, k_118_0, D_118_17, k_118_17, D_118_18, k_118_18, R_118, v_aload_n, g_getfield, sv_z, rf_s, g_if_eq, sv_o, sv_i, g_goto, g_iconst, g_ireturn, entL, getL, setL, kL_i, kL_r, isI_s, isR_s, isJ_s, gV_s, iV_i, cs0, cs1, cs2, cs3, cs4, dn_nil, kd_si, kd_sl, kd_sw, mr_si, mr_sl, mr_sw, ml_si, ml_sw, mi_sl, go_k G, go_r0 G, go_r5 G, go_r6 G, go_r7 G, go_r8 G, go_r10 G, go_r12 G, go_r13 G, go_r14 G, go_k201 G, go_k273 G, go_k274 G, go_k276 G, ↓if_pos a, if_pos a, retX_int]
  · simp -implicitDefEqProofs only [D_118_0, k_118_0, D_118_17, k_118_17, D_118_18, k_118_18, R_118, v_aload_n, g_getfield, sv_z, rf_s, g_if_eq, sv_o, sv_i, g_goto, g_iconst, g_ireturn, entL, getL, setL, kL_i, kL_r, isI_s, isR_s, isJ_s, gV_s, iV_i, cs0, cs1, cs2, cs3, cs4, dn_nil, kd_si, kd_sl, kd_sw, mr_si, mr_sl, mr_sw, ml_si, ml_sw, mi_sl, go_k G, go_r0 G, go_r5 G, go_r6 G, go_r7 G, go_r8 G, go_r10 G, go_r12 G, go_r13 G, go_r14 G, go_k201 G, go_k273 G, go_k274 G, go_k276 G, su_k U, su_r9 U, su_r10 U, su_r12 U, su_r13 U, su_r14 U, su_r15 U, su_k1 U, su_k2 U, su_k3 U, su_k4 U, su_k5 U, su_k6 U, ↓if_neg a, if_neg a, retX_int]
theorem R_100 : PG.2.1 100 = (some .int) := rfl
theorem m_100 {u d b c : Nat} {h : Mm} (G : GO h u d b c) (T : ST h b) : dM PG 100 [.ref 200] h = some (.inl (some (.int (if h.mi 200 4 = 0 then 0 else h.mi (b + 13) 0))), h) := by
  rw [dM_of (Nat.le_of_ble_eq_true rfl)]
  by_cases a : h.mi 200 4 = 0
  · simp -implicitDefEqProofs only [D_100_0, k_100_0, D_100_20, k_100_20, D_100_21, k_100_21, R_100, v_aload_n, g_getfield, sv_z, rf_s, g_if_eq, sv_o, sv_i, g_goto, g_iconst, g_ireturn, entL, getL, setL, kL_i, kL_r, isI_s, isR_s, isJ_s, gV_s, iV_i, cs0, cs1, cs2, cs3, cs4, dn_nil, kd_si, kd_sl, kd_sw, mr_si, mr_sl, mr_sw, ml_si, ml_sw, mi_sl, go_k G, go_r0 G, go_r5 G, go_r6 G, go_r7 G, go_r8 G, go_r10 G, go_r12 G, go_r13 G, go_r14 G, go_k201 G, go_k273 G, go_k274 G, go_k276 G, ↓if_pos a, if_pos a, retX_int]
  · simp -implicitDefEqProofs only [D_100_0, k_100_0, D_100_20, k_100_20, D_100_21, k_100_21, R_100, v_aload_n, g_getfield, sv_z, rf_s, g_if_eq, sv_o, sv_i, g_goto, g_iconst, g_ireturn, entL, getL, setL, kL_i, kL_r, isI_s, isR_s, isJ_s, gV_s, iV_i, cs0, cs1, cs2, cs3, cs4, dn_nil, kd_si, kd_sl, kd_sw, mr_si, mr_sl, mr_sw, ml_si, ml_sw, mi_sl, go_k G, go_r0 G, go_r5 G, go_r6 G, go_r7 G, go_r8 G, go_r10 G, go_r12 G, go_r13 G, go_r14 G, go_k201 G, go_k273 G, go_k274 G, go_k276 G, st_k T, st_r6 T, st_r7 T, st_r8 T, st_r9 T, st_r10 T, st_r11 T, st_r12 T, st_r13 T, st_k1 T, st_k2 T, st_k3 T, st_k4 T, st_k5 T, st_k6 T, st_ki T, st_i2 T, st_i3 T, st_i4 T, st_i5 T, st_i6 T, st_k8 T, st_k9 T, st_k10 T, st_k11 T, st_k12 T, st_kb T, st_b2 T, st_b3 T, st_b4 T, st_b5 T, st_b6 T, st_k14 T, st_k15 T, st_k16 T, st_k17 T, st_k18 T, ↓if_neg a, if_neg a, retX_int]
theorem R_84 : PG.2.1 84 = (some .int) := rfl
theorem m_84 {u d b c : Nat} {h : Mm} (G : GO h u d b c) (T : ST h b) : dM PG 84 [.ref 200] h = some (.inl (some (.int (if h.mi 200 4 = 0 then 0 else h.mi b 0))), h) := by
  rw [dM_of (Nat.le_of_ble_eq_true rfl)]
  by_cases a : h.mi 200 4 = 0
  · simp -implicitDefEqProofs only [D_84_0, k_84_0, D_84_17, k_84_17, D_84_18, k_84_18, R_84, v_aload_n, g_getfield, sv_z, rf_s, g_if_eq, sv_o, sv_i, g_goto, g_iconst, g_ireturn, entL, getL, setL, kL_i, kL_r, isI_s, isR_s, isJ_s, gV_s, iV_i, cs0, cs1, cs2, cs3, cs4, dn_nil, kd_si, kd_sl, kd_sw, mr_si, mr_sl, mr_sw, ml_si, ml_sw, mi_sl, go_k G, go_r0 G, go_r5 G, go_r6 G, go_r7 G, go_r8 G, go_r10 G, go_r12 G, go_r13 G, go_r14 G, go_k201 G, go_k273 G, go_k274 G, go_k276 G, ↓if_pos a, if_pos a, retX_int]
  · simp -implicitDefEqProofs only [D_84_0, k_84_0, D_84_17, k_84_17, D_84_18, k_84_18, R_84, v_aload_n, g_getfield, sv_z, rf_s, g_if_eq, sv_o, sv_i, g_goto, g_iconst, g_ireturn, entL, getL, setL, kL_i, kL_r, isI_s, isR_s, isJ_s, gV_s, iV_i, cs0, cs1, cs2, cs3, cs4, dn_nil, kd_si, kd_sl, kd_sw, mr_si, mr_sl, mr_sw, ml_si, ml_sw, mi_sl, go_k G, go_r0 G, go_r5 G, go_r6 G, go_r7 G, go_r8 G, go_r10 G, go_r12 G, go_r13 G, go_r14 G, go_k201 G, go_k273 G, go_k274 G, go_k276 G, st_k T, st_r6 T, st_r7 T, st_r8 T, st_r9 T, st_r10 T, st_r11 T, st_r12 T, st_r13 T, st_k1 T, st_k2 T, st_k3 T, st_k4 T, st_k5 T, st_k6 T, st_ki T, st_i2 T, st_i3 T, st_i4 T, st_i5 T, st_i6 T, st_k8 T, st_k9 T, st_k10 T, st_k11 T, st_k12 T, st_kb T, st_b2 T, st_b3 T, st_b4 T, st_b5 T, st_b6 T, st_k14 T, st_k15 T, st_k16 T, st_k17 T, st_k18 T, ↓if_neg a, if_neg a, retX_int]
theorem R_82 : PG.2.1 82 = (some .int) := rfl
theorem m_82 {u d b c : Nat} {h : Mm} (G : GO h u d b c) (T : ST h b) : dM PG 82 [.ref 200] h = some (.inl (some (.int (if h.mi 200 4 = 0 then 0 else h.mi b 1))), h) := by
  rw [dM_of (Nat.le_of_ble_eq_true rfl)]
  by_cases a : h.mi 200 4 = 0
  · simp -implicitDefEqProofs only [D_82_0, k_82_0, D_82_17, k_82_17, D_82_18, k_82_18, R_82, v_aload_n, g_getfield, sv_z, rf_s, g_if_eq, sv_o, sv_i, g_goto, g_iconst, g_ireturn, entL, getL, setL, kL_i, kL_r, isI_s, isR_s, isJ_s, gV_s, iV_i, cs0, cs1, cs2, cs3, cs4, dn_nil, kd_si, kd_sl, kd_sw, mr_si, mr_sl, mr_sw, ml_si, ml_sw, mi_sl, go_k G, go_r0 G, go_r5 G, go_r6 G, go_r7 G, go_r8 G, go_r10 G, go_r12 G, go_r13 G, go_r14 G, go_k201 G, go_k273 G, go_k274 G, go_k276 G, ↓if_pos a, if_pos a, retX_int]
  · simp -implicitDefEqProofs only [D_82_0, k_82_0, D_82_17, k_82_17, D_82_18, k_82_18, R_82, v_aload_n, g_getfield, sv_z, rf_s, g_if_eq, sv_o, sv_i, g_goto, g_iconst, g_ireturn, entL, getL, setL, kL_i, kL_r, isI_s, isR_s, isJ_s, gV_s, iV_i, cs0, cs1, cs2, cs3, cs4, dn_nil, kd_si, kd_sl, kd_sw, mr_si, mr_sl, mr_sw, ml_si, ml_sw, mi_sl, go_k G, go_r0 G, go_r5 G, go_r6 G, go_r7 G, go_r8 G, go_r10 G, go_r12 G, go_r13 G, go_r14 G, go_k201 G, go_k273 G, go_k274 G, go_k276 G, st_k T, st_r6 T, st_r7 T, st_r8 T, st_r9 T, st_r10 T, st_r11 T, st_r12 T, st_r13 T, st_k1 T, st_k2 T, st_k3 T, st_k4 T, st_k5 T, st_k6 T, st_ki T, st_i2 T, st_i3 T, st_i4 T, st_i5 T, st_i6 T, st_k8 T, st_k9 T, st_k10 T, st_k11 T, st_k12 T, st_kb T, st_b2 T, st_b3 T, st_b4 T, st_b5 T, st_b6 T, st_k14 T, st_k15 T, st_k16 T, st_k17 T, st_k18 T, ↓if_neg a, if_neg a, retX_int]
theorem R_80 : PG.2.1 80 = (some .int) := rfl
theorem m_80 {u d b c : Nat} {h : Mm} (G : GO h u d b c) (T : ST h b) : dM PG 80 [.ref 200] h = some (.inl (some (.int (if h.mi 200 4 = 0 then 0 else h.mi b 5))), h) := by
  rw [dM_of (Nat.le_of_ble_eq_true rfl)]
  by_cases a : h.mi 200 4 = 0
  · simp -implicitDefEqProofs only [D_80_0, k_80_0, D_80_17, k_80_17, D_80_18, k_80_18, R_80, v_aload_n, g_getfield, sv_z, rf_s, g_if_eq, sv_o, sv_i, g_goto, g_iconst, g_ireturn, entL, getL, setL, kL_i, kL_r, isI_s, isR_s, isJ_s, gV_s, iV_i, cs0, cs1, cs2, cs3, cs4, dn_nil, kd_si, kd_sl, kd_sw, mr_si, mr_sl, mr_sw, ml_si, ml_sw, mi_sl, go_k G, go_r0 G, go_r5 G, go_r6 G, go_r7 G, go_r8 G, go_r10 G, go_r12 G, go_r13 G, go_r14 G, go_k201 G, go_k273 G, go_k274 G, go_k276 G, ↓if_pos a, if_pos a, retX_int]
  · simp -implicitDefEqProofs only [D_80_0, k_80_0, D_80_17, k_80_17, D_80_18, k_80_18, R_80, v_aload_n, g_getfield, sv_z, rf_s, g_if_eq, sv_o, sv_i, g_goto, g_iconst, g_ireturn, entL, getL, setL, kL_i, kL_r, isI_s, isR_s, isJ_s, gV_s, iV_i, cs0, cs1, cs2, cs3, cs4, dn_nil, kd_si, kd_sl, kd_sw, mr_si, mr_sl, mr_sw, ml_si, ml_sw, mi_sl, go_k G, go_r0 G, go_r5 G, go_r6 G, go_r7 G, go_r8 G, go_r10 G, go_r12 G, go_r13 G, go_r14 G, go_k201 G, go_k273 G, go_k274 G, go_k276 G, st_k T, st_r6 T, st_r7 T, st_r8 T, st_r9 T, st_r10 T, st_r11 T, st_r12 T, st_r13 T, st_k1 T, st_k2 T, st_k3 T, st_k4 T, st_k5 T, st_k6 T, st_ki T, st_i2 T, st_i3 T, st_i4 T, st_i5 T, st_i6 T, st_k8 T, st_k9 T, st_k10 T, st_k11 T, st_k12 T, st_kb T, st_b2 T, st_b3 T, st_b4 T, st_b5 T, st_b6 T, st_k14 T, st_k15 T, st_k16 T, st_k17 T, st_k18 T, ↓if_neg a, if_neg a, retX_int]
theorem R_76 : PG.2.1 76 = (some .int) := rfl
theorem m_76 {u d b c : Nat} {h : Mm} (G : GO h u d b c) (T : ST h b) : dM PG 76 [.ref 200] h = some (.inl (some (.int (if h.mi 200 4 = 0 then 0 else h.mi b 3))), h) := by
  rw [dM_of (Nat.le_of_ble_eq_true rfl)]
  by_cases a : h.mi 200 4 = 0
  · simp -implicitDefEqProofs only [D_76_0, k_76_0, D_76_17, k_76_17, D_76_18, k_76_18, R_76, v_aload_n, g_getfield, sv_z, rf_s, g_if_eq, sv_o, sv_i, g_goto, g_iconst, g_ireturn, entL, getL, setL, kL_i, kL_r, isI_s, isR_s, isJ_s, gV_s, iV_i, cs0, cs1, cs2, cs3, cs4, dn_nil, kd_si, kd_sl, kd_sw, mr_si, mr_sl, mr_sw, ml_si, ml_sw, mi_sl, go_k G, go_r0 G, go_r5 G, go_r6 G, go_r7 G, go_r8 G, go_r10 G, go_r12 G, go_r13 G, go_r14 G, go_k201 G, go_k273 G, go_k274 G, go_k276 G, ↓if_pos a, if_pos a, retX_int]
  · simp -implicitDefEqProofs only [D_76_0, k_76_0, D_76_17, k_76_17, D_76_18, k_76_18, R_76, v_aload_n, g_getfield, sv_z, rf_s, g_if_eq, sv_o, sv_i, g_goto, g_iconst, g_ireturn, entL, getL, setL, kL_i, kL_r, isI_s, isR_s, isJ_s, gV_s, iV_i, cs0, cs1, cs2, cs3, cs4, dn_nil, kd_si, kd_sl, kd_sw, mr_si, mr_sl, mr_sw, ml_si, ml_sw, mi_sl, go_k G, go_r0 G, go_r5 G, go_r6 G, go_r7 G, go_r8 G, go_r10 G, go_r12 G, go_r13 G, go_r14 G, go_k201 G, go_k273 G, go_k274 G, go_k276 G, st_k T, st_r6 T, st_r7 T, st_r8 T, st_r9 T, st_r10 T, st_r11 T, st_r12 T, st_r13 T, st_k1 T, st_k2 T, st_k3 T, st_k4 T, st_k5 T, st_k6 T, st_ki T, st_i2 T, st_i3 T, st_i4 T, st_i5 T, st_i6 T, st_k8 T, st_k9 T, st_k10 T, st_k11 T, st_k12 T, st_kb T, st_b2 T, st_b3 T, st_b4 T, st_b5 T, st_b6 T, st_k14 T, st_k15 T, st_k16 T, st_k17 T, st_k18 T, ↓if_neg a, if_neg a, retX_int]
theorem R_74 : PG.2.1 74 = (some .int) := rfl
theorem m_74 {u d b c : Nat} {h : Mm} (G : GO h u d b c) (T : ST h b) : dM PG 74 [.ref 200] h = some (.inl (some (.int (if h.mi 200 4 = 0 then 0 else h.mi b 4))), h) := by
  rw [dM_of (Nat.le_of_ble_eq_true rfl)]
  by_cases a : h.mi 200 4 = 0
  · simp -implicitDefEqProofs only [D_74_0, k_74_0, D_74_17, k_74_17, D_74_18, k_74_18, R_74, v_aload_n, g_getfield, sv_z, rf_s, g_if_eq, sv_o, sv_i, g_goto, g_iconst, g_ireturn, entL, getL, setL, kL_i, kL_r, isI_s, isR_s, isJ_s, gV_s, iV_i, cs0, cs1, cs2, cs3, cs4, dn_nil, kd_si, kd_sl, kd_sw, mr_si, mr_sl, mr_sw, ml_si, ml_sw, mi_sl, go_k G, go_r0 G, go_r5 G, go_r6 G, go_r7 G, go_r8 G, go_r10 G, go_r12 G, go_r13 G, go_r14 G, go_k201 G, go_k273 G, go_k274 G, go_k276 G, ↓if_pos a, if_pos a, retX_int]
  · simp -implicitDefEqProofs only [D_74_0, k_74_0, D_74_17, k_74_17, D_74_18, k_74_18, R_74, v_aload_n, g_getfield, sv_z, rf_s, g_if_eq, sv_o, sv_i, g_goto, g_iconst, g_ireturn, entL, getL, setL, kL_i, kL_r, isI_s, isR_s, isJ_s, gV_s, iV_i, cs0, cs1, cs2, cs3, cs4, dn_nil, kd_si, kd_sl, kd_sw, mr_si, mr_sl, mr_sw, ml_si, ml_sw, mi_sl, go_k G, go_r0 G, go_r5 G, go_r6 G, go_r7 G, go_r8 G, go_r10 G, go_r12 G, go_r13 G, go_r14 G, go_k201 G, go_k273 G, go_k274 G, go_k276 G, st_k T, st_r6 T, st_r7 T, st_r8 T, st_r9 T, st_r10 T, st_r11 T, st_r12 T, st_r13 T, st_k1 T, st_k2 T, st_k3 T, st_k4 T, st_k5 T, st_k6 T, st_ki T, st_i2 T, st_i3 T, st_i4 T, st_i5 T, st_i6 T, st_k8 T, st_k9 T, st_k10 T, st_k11 T, st_k12 T, st_kb T, st_b2 T, st_b3 T, st_b4 T, st_b5 T, st_b6 T, st_k14 T, st_k15 T, st_k16 T, st_k17 T, st_k18 T, ↓if_neg a, if_neg a, retX_int]
theorem R_68 : PG.2.1 68 = (some .int) := rfl
theorem m_68 {u d b c m : Nat} (hm : m ≤ 80) {h : Mm} (G : GO h u d b c) (T : ST h b) (h7 : h.mi (b + 7) 0 = Int32.ofNat m) : dM PG 68 [.ref 200] h = some (.inl (some (.int (if h.mi 200 4 = 0 then 0 else fl (ftS (rowsAt h b) 1) m 0 0))), h) := by
  rw [dM_of (Nat.le_of_ble_eq_true rfl)]
  have g := m_200 (x := 1) hm T (R := rowsAt h b) h7
  rw [sb_id] at g
  by_cases a : h.mi 200 4 = 0
  · simp -implicitDefEqProofs only [D_68_0, k_68_0, D_68_21, k_68_21, D_68_22, k_68_22, R_68, v_aload_n, g_getfield, sv_z, rf_s, g_if_eq, sv_o, g_iconst, v_callV2, aft_v, aft_n, g_goto, g_ireturn, entL, getL, setL, kL_i, kL_r, isI_s, isR_s, isJ_s, gV_s, iV_i, cs0, cs1, cs2, cs3, cs4, dn_nil, kd_si, kd_sl, kd_sw, mr_si, mr_sl, mr_sw, ml_si, ml_sw, mi_sl, go_k G, go_r0 G, go_r5 G, go_r6 G, go_r7 G, go_r8 G, go_r10 G, go_r12 G, go_r13 G, go_r14 G, go_k201 G, go_k273 G, go_k274 G, go_k276 G, ↓if_pos a, if_pos a, retX_int]
  · simp -implicitDefEqProofs only [D_68_0, k_68_0, D_68_21, k_68_21, D_68_22, k_68_22, R_68, v_aload_n, g_getfield, sv_z, rf_s, g_if_eq, sv_o, g_iconst, v_callV2, aft_v, aft_n, g_goto, g_ireturn, entL, getL, setL, kL_i, kL_r, isI_s, isR_s, isJ_s, gV_s, iV_i, cs0, cs1, cs2, cs3, cs4, dn_nil, kd_si, kd_sl, kd_sw, mr_si, mr_sl, mr_sw, ml_si, ml_sw, mi_sl, go_k G, go_r0 G, go_r5 G, go_r6 G, go_r7 G, go_r8 G, go_r10 G, go_r12 G, go_r13 G, go_r14 G, go_k201 G, go_k273 G, go_k274 G, go_k276 G, st_k T, st_r6 T, st_r7 T, st_r8 T, st_r9 T, st_r10 T, st_r11 T, st_r12 T, st_r13 T, st_k1 T, st_k2 T, st_k3 T, st_k4 T, st_k5 T, st_k6 T, st_ki T, st_i2 T, st_i3 T, st_i4 T, st_i5 T, st_i6 T, st_k8 T, st_k9 T, st_k10 T, st_k11 T, st_k12 T, st_kb T, st_b2 T, st_b3 T, st_b4 T, st_b5 T, st_b6 T, st_k14 T, st_k15 T, st_k16 T, st_k17 T, st_k18 T, g, ↓if_neg a, if_neg a, retX_int]
theorem R_122 : PG.2.1 122 = (some .int) := rfl
theorem m_122 {u d b c : Nat} {h : Mm} (G : GO h u d b c) : dM PG 122 [.ref 200] h = some (.inl (some (.int (h.mi 200 1))), h) := by
  rw [dM_of (Nat.le_of_ble_eq_true rfl)]
  simp -implicitDefEqProofs only [D_122_0, k_122_0, R_122, v_aload_n, g_getfield, sv_i, rf_s, g_ireturn, entL, getL, setL, kL_i, kL_r, isI_s, isR_s, isJ_s, gV_s, iV_i, cs0, cs1, cs2, cs3, cs4, dn_nil, kd_si, kd_sl, kd_sw, mr_si, mr_sl, mr_sw, ml_si, ml_sw, mi_sl, go_k G, go_r0 G, go_r5 G, go_r6 G, go_r7 G, go_r8 G, go_r10 G, go_r12 G, go_r13 G, go_r14 G, go_k201 G, go_k273 G, go_k274 G, go_k276 G, retX_int]
theorem R_124 : PG.2.1 124 = (some .int) := rfl
theorem m_124 {u d b c : Nat} {h : Mm} (G : GO h u d b c) : dM PG 124 [.ref 200] h = some (.inl (some (.int (h.mi 200 3))), h) := by
  rw [dM_of (Nat.le_of_ble_eq_true rfl)]
  simp -implicitDefEqProofs only [D_124_0, k_124_0, R_124, v_aload_n, g_getfield, sv_i, rf_s, g_ireturn, entL, getL, setL, kL_i, kL_r, isI_s, isR_s, isJ_s, gV_s, iV_i, cs0, cs1, cs2, cs3, cs4, dn_nil, kd_si, kd_sl, kd_sw, mr_si, mr_sl, mr_sw, ml_si, ml_sw, mi_sl, go_k G, go_r0 G, go_r5 G, go_r6 G, go_r7 G, go_r8 G, go_r10 G, go_r12 G, go_r13 G, go_r14 G, go_k201 G, go_k273 G, go_k274 G, go_k276 G, retX_int]
theorem R_126 : PG.2.1 126 = (some .int) := rfl
theorem m_126 {u d b c : Nat} {h : Mm} (G : GO h u d b c) : dM PG 126 [.ref 200] h = some (.inl (some (.int (h.mi 200 2))), h) := by
  rw [dM_of (Nat.le_of_ble_eq_true rfl)]
  simp -implicitDefEqProofs only [D_126_0, k_126_0, R_126, v_aload_n, g_getfield, sv_i, rf_s, g_ireturn, entL, getL, setL, kL_i, kL_r, isI_s, isR_s, isJ_s, gV_s, iV_i, cs0, cs1, cs2, cs3, cs4, dn_nil, kd_si, kd_sl, kd_sw, mr_si, mr_sl, mr_sw, ml_si, ml_sw, mi_sl, go_k G, go_r0 G, go_r5 G, go_r6 G, go_r7 G, go_r8 G, go_r10 G, go_r12 G, go_r13 G, go_r14 G, go_k201 G, go_k273 G, go_k274 G, go_k276 G, retX_int]
theorem R_14 : PG.2.1 14 = (some .int) := rfl
theorem m_14 {u d b c : Nat} {h : Mm} (G : GO h u d b c) : dM PG 14 [.ref 200] h = some (.inl (some (.int (h.mi 200 11))), h) := by
  rw [dM_of (Nat.le_of_ble_eq_true rfl)]
  simp -implicitDefEqProofs only [D_14_0, k_14_0, R_14, v_aload_n, g_getfield, sv_i, rf_s, g_ireturn, entL, getL, setL, kL_i, kL_r, isI_s, isR_s, isJ_s, gV_s, iV_i, cs0, cs1, cs2, cs3, cs4, dn_nil, kd_si, kd_sl, kd_sw, mr_si, mr_sl, mr_sw, ml_si, ml_sw, mi_sl, go_k G, go_r0 G, go_r5 G, go_r6 G, go_r7 G, go_r8 G, go_r10 G, go_r12 G, go_r13 G, go_r14 G, go_k201 G, go_k273 G, go_k274 G, go_k276 G, retX_int]
theorem R_216 : PG.2.1 216 = (some .int) := rfl
theorem x_216 {E : String} : PG.2.2.1 216 E = none := rfl
theorem m_216n {i p : Int32} {u d b c : Nat} {h : Mm} (G : GO h u d b c) (U : SU h u) (hl : h.mi 200 4 = 0) : dM PG 216 [.ref 200, .int i, .int p] h = some (.inr (exN 0), h.thr) := by
  rw [dM_of (Nat.le_of_ble_eq_true rfl)]
  simp -implicitDefEqProofs only [D_216_0, k_216_0, R_216, v_aload_n, v_iload_n, v_callV3, aft_v, aft_n, g_getfield, sv_o, rf_s, sv_a, g_iconst, g_imul, g_iadd, v_iaload, inI_0, g_ireturn, entL, getL, setL, kL_i, kL_r, isI_s, isR_s, isJ_s, gV_s, iV_i, cs0, cs1, cs2, cs3, cs4, dn_nil, kd_si, kd_sl, kd_sw, mr_si, mr_sl, mr_sw, ml_si, ml_sw, mi_sl, go_k G, m_261n G U hl, aft_x (x_216)]
theorem m_216x {i p : Int32} {u d b c : Nat} {h : Mm} (G : GO h u d b c) (U : SU h u) (hl : ¬ h.mi 200 4 = 0) (hi : i < 0 ∨ ¬ i < h.mi u 11) : dM PG 216 [.ref 200, .int i, .int p] h = some (.inr (exN 1), h.thr) := by
  rw [dM_of (Nat.le_of_ble_eq_true rfl)]
  simp -implicitDefEqProofs only [D_216_0, k_216_0, R_216, v_aload_n, v_iload_n, v_callV3, aft_v, aft_n, g_getfield, sv_o, rf_s, sv_a, g_iconst, g_imul, g_iadd, v_iaload, inI_0, g_ireturn, entL, getL, setL, kL_i, kL_r, isI_s, isR_s, isJ_s, gV_s, iV_i, cs0, cs1, cs2, cs3, cs4, dn_nil, kd_si, kd_sl, kd_sw, mr_si, mr_sl, mr_sw, ml_si, ml_sw, mi_sl, go_k G, m_261x G U hl hi, aft_x (x_216)]
theorem m_216p {k : Nat} {p : Int32} (hk : k < 4) {u d b c : Nat} {h : Mm} (G : GO h u d b c) (U : SU h u) (hl : ¬ h.mi 200 4 = 0) (e : Int32.ofNat k < h.mi u 11) (hp : p < 0 ∨ ¬ p < h.mi (u + 3 + k) 1) : dM PG 216 [.ref 200, .int (Int32.ofNat k), .int p] h = some (.inr (exN 1), h.thr) := by
  rw [dM_of (Nat.le_of_ble_eq_true rfl)]
  simp -implicitDefEqProofs only [D_216_0, k_216_0, R_216, v_aload_n, v_iload_n, v_callV3, aft_v, aft_n, g_getfield, sv_o, rf_s, sv_a, g_iconst, g_imul, g_iadd, v_iaload, inI_0, g_ireturn, entL, getL, setL, kL_i, kL_r, isI_s, isR_s, isJ_s, gV_s, iV_i, cs0, cs1, cs2, cs3, cs4, dn_nil, kd_si, kd_sl, kd_sw, mr_si, mr_sl, mr_sw, ml_si, ml_sw, mi_sl, go_k G, m_261p hk G U hl e hp, aft_x (x_216)]
theorem m_216y {k p : Nat} (hk : k < 4) (hp3 : p < 3) {u d b c : Nat} {h : Mm} (G : GO h u d b c) (U : SU h u) (T : ST h b) (hl : ¬ h.mi 200 4 = 0) (e : Int32.ofNat k < h.mi u 11) (ep : Int32.ofNat p < h.mi (u + 3 + k) 1) : dM PG 216 [.ref 200, .int (Int32.ofNat k), .int (Int32.ofNat p)] h = some (.inl (some (.int (h.mi (b + 6) (k * 3 + p)))), h) := by
  rw [dM_of (Nat.le_of_ble_eq_true rfl)]
  have b_1 : inb (Int32.ofNat (k * 3 + p)) 12 = true := inb_nat (by omega) (by decide)
  have n_1 : (Int32.ofNat (k * 3 + p)).toNatClampNeg = k * 3 + p := i32_nat (by omega)
  have ap : ¬ Int32.ofNat p < 0 := i32_0n (by omega)
  simp -implicitDefEqProofs only [D_216_0, k_216_0, R_216, v_aload_n, v_iload_n, v_callV3, aft_v, aft_n, g_getfield, sv_o, rf_s, sv_a, g_iconst, g_imul, g_iadd, v_iaload, inI_0, g_ireturn, entL, getL, setL, kL_i, kL_r, isI_s, isR_s, isJ_s, gV_s, iV_i, cs0, cs1, cs2, cs3, cs4, dn_nil, kd_si, kd_sl, kd_sw, mr_si, mr_sl, mr_sw, ml_si, ml_sw, mi_sl, go_k G, go_r0 G, go_r5 G, go_r6 G, go_r7 G, go_r8 G, go_r10 G, go_r12 G, go_r13 G, go_r14 G, go_k201 G, go_k273 G, go_k274 G, go_k276 G, st_k T, st_r6 T, st_r7 T, st_r8 T, st_r9 T, st_r10 T, st_r11 T, st_r12 T, st_r13 T, st_k1 T, st_k2 T, st_k3 T, st_k4 T, st_k5 T, st_k6 T, st_ki T, st_i2 T, st_i3 T, st_i4 T, st_i5 T, st_i6 T, st_k8 T, st_k9 T, st_k10 T, st_k11 T, st_k12 T, st_kb T, st_b2 T, st_b3 T, st_b4 T, st_b5 T, st_b6 T, st_k14 T, st_k15 T, st_k16 T, st_k17 T, st_k18 T, m_261y hk G U hl e ap ep, rm_3, i32_add, b_1, n_1, retX_int]
theorem R_215 : PG.2.1 215 = (some .int) := rfl
theorem x_215 {E : String} : PG.2.2.1 215 E = none := rfl
theorem m_215n {i p : Int32} {u d b c : Nat} {h : Mm} (G : GO h u d b c) (U : SU h u) (hl : h.mi 200 4 = 0) : dM PG 215 [.ref 200, .int i, .int p] h = some (.inr (exN 0), h.thr) := by
  rw [dM_of (Nat.le_of_ble_eq_true rfl)]
  simp -implicitDefEqProofs only [D_215_0, k_215_0, R_215, v_aload_n, v_iload_n, v_callV3, aft_v, aft_n, g_getfield, sv_o, rf_s, g_ireturn, entL, getL, setL, kL_i, kL_r, isI_s, isR_s, isJ_s, gV_s, iV_i, cs0, cs1, cs2, cs3, cs4, dn_nil, kd_si, kd_sl, kd_sw, mr_si, mr_sl, mr_sw, ml_si, ml_sw, mi_sl, go_k G, m_261n G U hl, aft_x (x_215)]
theorem m_215x {i p : Int32} {u d b c : Nat} {h : Mm} (G : GO h u d b c) (U : SU h u) (hl : ¬ h.mi 200 4 = 0) (hi : i < 0 ∨ ¬ i < h.mi u 11) : dM PG 215 [.ref 200, .int i, .int p] h = some (.inr (exN 1), h.thr) := by
  rw [dM_of (Nat.le_of_ble_eq_true rfl)]
  simp -implicitDefEqProofs only [D_215_0, k_215_0, R_215, v_aload_n, v_iload_n, v_callV3, aft_v, aft_n, g_getfield, sv_o, rf_s, g_ireturn, entL, getL, setL, kL_i, kL_r, isI_s, isR_s, isJ_s, gV_s, iV_i, cs0, cs1, cs2, cs3, cs4, dn_nil, kd_si, kd_sl, kd_sw, mr_si, mr_sl, mr_sw, ml_si, ml_sw, mi_sl, go_k G, m_261x G U hl hi, aft_x (x_215)]
theorem m_215p {k : Nat} {p : Int32} (hk : k < 4) {u d b c : Nat} {h : Mm} (G : GO h u d b c) (U : SU h u) (hl : ¬ h.mi 200 4 = 0) (e : Int32.ofNat k < h.mi u 11) (hp : p < 0 ∨ ¬ p < h.mi (u + 3 + k) 1) : dM PG 215 [.ref 200, .int (Int32.ofNat k), .int p] h = some (.inr (exN 1), h.thr) := by
  rw [dM_of (Nat.le_of_ble_eq_true rfl)]
  simp -implicitDefEqProofs only [D_215_0, k_215_0, R_215, v_aload_n, v_iload_n, v_callV3, aft_v, aft_n, g_getfield, sv_o, rf_s, g_ireturn, entL, getL, setL, kL_i, kL_r, isI_s, isR_s, isJ_s, gV_s, iV_i, cs0, cs1, cs2, cs3, cs4, dn_nil, kd_si, kd_sl, kd_sw, mr_si, mr_sl, mr_sw, ml_si, ml_sw, mi_sl, go_k G, m_261p hk G U hl e hp, aft_x (x_215)]
theorem m_215y {k p : Nat} (hk : k < 4) (hp3 : p < 3) {u d b c : Nat} {h : Mm} (G : GO h u d b c) (U : SU h u) (T : ST h b) (hl : ¬ h.mi 200 4 = 0) (e : Int32.ofNat k < h.mi u 11) (ep : Int32.ofNat p < h.mi (u + 3 + k) 1) {m : Nat} (hm : m ≤ 80) (h7 : h.mi (b + 7) 0 = Int32.ofNat m) : dM PG 215 [.ref 200, .int (Int32.ofNat k), .int (Int32.ofNat p)] h = some (.inl (some (.int (fl (fun i a => a + b2i (opB (rowsAt h b) i (Int32.ofNat k) (Int32.ofNat p))) m 0 0))), h) := by
  rw [dM_of (Nat.le_of_ble_eq_true rfl)]
  have b_1 : inb (Int32.ofNat (k * 3 + p)) 12 = true := inb_nat (by omega) (by decide)
  have n_1 : (Int32.ofNat (k * 3 + p)).toNatClampNeg = k * 3 + p := i32_nat (by omega)
  have ap : ¬ Int32.ofNat p < 0 := i32_0n (by omega)
  have g := m_286 (k := Int32.ofNat k) (p := Int32.ofNat p) hm T (R := rowsAt h b) h7
  rw [sb_id] at g
  simp -implicitDefEqProofs only [D_215_0, k_215_0, R_215, v_aload_n, v_iload_n, v_callV3, aft_v, aft_n, g_getfield, sv_o, rf_s, g_ireturn, entL, getL, setL, kL_i, kL_r, isI_s, isR_s, isJ_s, gV_s, iV_i, cs0, cs1, cs2, cs3, cs4, dn_nil, kd_si, kd_sl, kd_sw, mr_si, mr_sl, mr_sw, ml_si, ml_sw, mi_sl, go_k G, go_r0 G, go_r5 G, go_r6 G, go_r7 G, go_r8 G, go_r10 G, go_r12 G, go_r13 G, go_r14 G, go_k201 G, go_k273 G, go_k274 G, go_k276 G, st_k T, st_r6 T, st_r7 T, st_r8 T, st_r9 T, st_r10 T, st_r11 T, st_r12 T, st_r13 T, st_k1 T, st_k2 T, st_k3 T, st_k4 T, st_k5 T, st_k6 T, st_ki T, st_i2 T, st_i3 T, st_i4 T, st_i5 T, st_i6 T, st_k8 T, st_k9 T, st_k10 T, st_k11 T, st_k12 T, st_kb T, st_b2 T, st_b3 T, st_b4 T, st_b5 T, st_b6 T, st_k14 T, st_k15 T, st_k16 T, st_k17 T, st_k18 T, m_261y hk G U hl e ap ep, rm_3, i32_add, b_1, n_1, g, retX_int]
theorem R_180 : PG.2.1 180 = (some .int) := rfl
theorem x_180 {E : String} : PG.2.2.1 180 E = none := rfl
theorem m_180n {i p : Int32} {u d b c : Nat} {h : Mm} (G : GO h u d b c) (U : SU h u) (hl : h.mi 200 4 = 0) : dM PG 180 [.ref 200, .int i, .int p] h = some (.inr (exN 0), h.thr) := by
  rw [dM_of (Nat.le_of_ble_eq_true rfl)]
  simp -implicitDefEqProofs only [D_180_0, k_180_0, R_180, v_aload_n, v_iload_n, v_callV3, aft_v, aft_n, g_getfield, sv_o, rf_s, g_ireturn, entL, getL, setL, kL_i, kL_r, isI_s, isR_s, isJ_s, gV_s, iV_i, cs0, cs1, cs2, cs3, cs4, dn_nil, kd_si, kd_sl, kd_sw, mr_si, mr_sl, mr_sw, ml_si, ml_sw, mi_sl, go_k G, m_261n G U hl, aft_x (x_180)]
theorem m_180x {i p : Int32} {u d b c : Nat} {h : Mm} (G : GO h u d b c) (U : SU h u) (hl : ¬ h.mi 200 4 = 0) (hi : i < 0 ∨ ¬ i < h.mi u 11) : dM PG 180 [.ref 200, .int i, .int p] h = some (.inr (exN 1), h.thr) := by
  rw [dM_of (Nat.le_of_ble_eq_true rfl)]
  simp -implicitDefEqProofs only [D_180_0, k_180_0, R_180, v_aload_n, v_iload_n, v_callV3, aft_v, aft_n, g_getfield, sv_o, rf_s, g_ireturn, entL, getL, setL, kL_i, kL_r, isI_s, isR_s, isJ_s, gV_s, iV_i, cs0, cs1, cs2, cs3, cs4, dn_nil, kd_si, kd_sl, kd_sw, mr_si, mr_sl, mr_sw, ml_si, ml_sw, mi_sl, go_k G, m_261x G U hl hi, aft_x (x_180)]
theorem m_180p {k : Nat} {p : Int32} (hk : k < 4) {u d b c : Nat} {h : Mm} (G : GO h u d b c) (U : SU h u) (hl : ¬ h.mi 200 4 = 0) (e : Int32.ofNat k < h.mi u 11) (hp : p < 0 ∨ ¬ p < h.mi (u + 3 + k) 1) : dM PG 180 [.ref 200, .int (Int32.ofNat k), .int p] h = some (.inr (exN 1), h.thr) := by
  rw [dM_of (Nat.le_of_ble_eq_true rfl)]
  simp -implicitDefEqProofs only [D_180_0, k_180_0, R_180, v_aload_n, v_iload_n, v_callV3, aft_v, aft_n, g_getfield, sv_o, rf_s, g_ireturn, entL, getL, setL, kL_i, kL_r, isI_s, isR_s, isJ_s, gV_s, iV_i, cs0, cs1, cs2, cs3, cs4, dn_nil, kd_si, kd_sl, kd_sw, mr_si, mr_sl, mr_sw, ml_si, ml_sw, mi_sl, go_k G, m_261p hk G U hl e hp, aft_x (x_180)]
theorem m_180y {k p : Nat} (hk : k < 4) (hp3 : p < 3) {u d b c : Nat} {h : Mm} (G : GO h u d b c) (U : SU h u) (T : ST h b) (hl : ¬ h.mi 200 4 = 0) (e : Int32.ofNat k < h.mi u 11) (ep : Int32.ofNat p < h.mi (u + 3 + k) 1) {pc al : Nat} (hpc : pc ≤ 10) (h5 : h.mi b 5 = Int32.ofNat pc) (hp : ∀ j, j < pc → inb (h.mi (b + 1) j) 80 = true) (hal : al < 1024) (ha : fl (psS (rowsAt h b) (Int32.ofNat k)) pc 0 0 = Int32.ofNat al) : dM PG 180 [.ref 200, .int (Int32.ofNat k), .int (Int32.ofNat p)] h = some (.inl (some (.int ((fl (bsS (rowsAt h b) pc (h.mi (b + 2) k - h.mi (b + 6) (k * 3 + p)) (Int32.ofNat al)) al 1 (-1, 0)).1))), h) := by
  rw [dM_of (Nat.le_of_ble_eq_true rfl)]
  have b_1 : inb (Int32.ofNat (k * 3 + p)) 12 = true := inb_nat (by omega) (by decide)
  have n_1 : (Int32.ofNat (k * 3 + p)).toNatClampNeg = k * 3 + p := i32_nat (by omega)
  have ap : ¬ Int32.ofNat p < 0 := i32_0n (by omega)
  have g := m_265 hpc hk hp3 T (R := rowsAt h b) h5 hp hal ha
  rw [sb_id] at g
  simp -implicitDefEqProofs only [D_180_0, k_180_0, R_180, v_aload_n, v_iload_n, v_callV3, aft_v, aft_n, g_getfield, sv_o, rf_s, g_ireturn, entL, getL, setL, kL_i, kL_r, isI_s, isR_s, isJ_s, gV_s, iV_i, cs0, cs1, cs2, cs3, cs4, dn_nil, kd_si, kd_sl, kd_sw, mr_si, mr_sl, mr_sw, ml_si, ml_sw, mi_sl, go_k G, go_r0 G, go_r5 G, go_r6 G, go_r7 G, go_r8 G, go_r10 G, go_r12 G, go_r13 G, go_r14 G, go_k201 G, go_k273 G, go_k274 G, go_k276 G, st_k T, st_r6 T, st_r7 T, st_r8 T, st_r9 T, st_r10 T, st_r11 T, st_r12 T, st_r13 T, st_k1 T, st_k2 T, st_k3 T, st_k4 T, st_k5 T, st_k6 T, st_ki T, st_i2 T, st_i3 T, st_i4 T, st_i5 T, st_i6 T, st_k8 T, st_k9 T, st_k10 T, st_k11 T, st_k12 T, st_kb T, st_b2 T, st_b3 T, st_b4 T, st_b5 T, st_b6 T, st_k14 T, st_k15 T, st_k16 T, st_k17 T, st_k18 T, m_261y hk G U hl e ap ep, rm_3, i32_add, b_1, n_1, g, retX_int]
  rfl
theorem R_202 : PG.2.1 202 = (some .int) := rfl
theorem x_202 {E : String} : PG.2.2.1 202 E = none := rfl
theorem m_202n {u d b c : Nat} {h : Mm} (G : GO h u d b c) (hl : h.mi 200 4 = 0) : dM PG 202 [.ref 200] h = some (.inr (exN 0), h.thr) := by
  rw [dM_of (Nat.le_of_ble_eq_true rfl)]
  simp -implicitDefEqProofs only [D_202_0, k_202_0, R_202, v_aload_n, v_callV1, aft_v, aft_n, g_getfield, sv_o, rf_s, v_callV2, g_ireturn, entL, getL, setL, kL_i, kL_r, isI_s, isR_s, isJ_s, gV_s, iV_i, cs0, cs1, cs2, cs3, cs4, dn_nil, kd_si, kd_sl, kd_sw, mr_si, mr_sl, mr_sw, ml_si, ml_sw, mi_sl, go_k G, m_236n G hl, aft_x (x_202)]
theorem m_202y {u d b c n : Nat} (hub : u + 7 ≤ b) (hn : n ≤ 80) {h : Mm} (G : GO h u d b c) (U : SU h u) (T : ST h b) (hl : ¬ h.mi 200 4 = 0) (h13 : h.mi (b + 13) 0 = Int32.ofNat n) : dM PG 202 [.ref 200] h = some (.inl (some (.int (fl (fun j a => a + b2i (gLB (h.mi u 6) (h.mi b 0) (rowsAt h b) j)) n 0 0))), h) := by
  rw [dM_of (Nat.le_of_ble_eq_true rfl)]
  have g := m_275 hub hn T U (R := rowsAt h b) h13
  rw [sb_id] at g
  have g2 : rowsAt h b 0 0 = h.mi b 0 := rfl
  rw [g2] at g
  simp -implicitDefEqProofs only [D_202_0, k_202_0, R_202, v_aload_n, v_callV1, aft_v, aft_n, g_getfield, sv_o, rf_s, v_callV2, g_ireturn, entL, getL, setL, kL_i, kL_r, isI_s, isR_s, isJ_s, gV_s, iV_i, cs0, cs1, cs2, cs3, cs4, dn_nil, kd_si, kd_sl, kd_sw, mr_si, mr_sl, mr_sw, ml_si, ml_sw, mi_sl, go_k G, go_r0 G, go_r5 G, go_r6 G, go_r7 G, go_r8 G, go_r10 G, go_r12 G, go_r13 G, go_r14 G, go_k201 G, go_k273 G, go_k274 G, go_k276 G, st_k T, st_r6 T, st_r7 T, st_r8 T, st_r9 T, st_r10 T, st_r11 T, st_r12 T, st_r13 T, st_k1 T, st_k2 T, st_k3 T, st_k4 T, st_k5 T, st_k6 T, st_ki T, st_i2 T, st_i3 T, st_i4 T, st_i5 T, st_i6 T, st_k8 T, st_k9 T, st_k10 T, st_k11 T, st_k12 T, st_kb T, st_b2 T, st_b3 T, st_b4 T, st_b5 T, st_b6 T, st_k14 T, st_k15 T, st_k16 T, st_k17 T, st_k18 T, m_236y G hl, g, retX_int]
theorem R_177 : PG.2.1 177 = (some .int) := rfl
theorem x_177 {E : String} : PG.2.2.1 177 E = none := rfl
theorem m_177n {u d b c : Nat} {h : Mm} (G : GO h u d b c) (hl : h.mi 200 4 = 0) : dM PG 177 [.ref 200] h = some (.inr (exN 0), h.thr) := by
  rw [dM_of (Nat.le_of_ble_eq_true rfl)]
  simp -implicitDefEqProofs only [D_177_0, k_177_0, R_177, v_aload_n, v_callV1, aft_v, aft_n, g_getfield, sv_o, rf_s, v_callV2, g_ireturn, entL, getL, setL, kL_i, kL_r, isI_s, isR_s, isJ_s, gV_s, iV_i, cs0, cs1, cs2, cs3, cs4, dn_nil, kd_si, kd_sl, kd_sw, mr_si, mr_sl, mr_sw, ml_si, ml_sw, mi_sl, go_k G, m_236n G hl, aft_x (x_177)]
theorem m_177y {u d b c n : Nat} (hub : u + 7 ≤ b) (hn : n ≤ 80) {h : Mm} (G : GO h u d b c) (U : SU h u) (T : ST h b) (hl : ¬ h.mi 200 4 = 0) (h13 : h.mi (b + 13) 0 = Int32.ofNat n) {q : Nat} (hq : q ≤ n) (h131 : h.mi (b + 13) 1 = Int32.ofNat q) : dM PG 177 [.ref 200] h = some (.inl (some (.int (if lkF (h.mi u 3) (rowsAt h b) n q - h.mi b 3 < 0 then 0 else lkF (h.mi u 3) (rowsAt h b) n q - h.mi b 3))), h) := by
  rw [dM_of (Nat.le_of_ble_eq_true rfl)]
  have g := m_269 hub hq hn T U (R := rowsAt h b) h13 h131
  rw [sb_id] at g
  have g2 : rowsAt h b 0 3 = h.mi b 3 := rfl
  rw [g2] at g
  simp -implicitDefEqProofs only [D_177_0, k_177_0, R_177, v_aload_n, v_callV1, aft_v, aft_n, g_getfield, sv_o, rf_s, v_callV2, g_ireturn, entL, getL, setL, kL_i, kL_r, isI_s, isR_s, isJ_s, gV_s, iV_i, cs0, cs1, cs2, cs3, cs4, dn_nil, kd_si, kd_sl, kd_sw, mr_si, mr_sl, mr_sw, ml_si, ml_sw, mi_sl, go_k G, go_r0 G, go_r5 G, go_r6 G, go_r7 G, go_r8 G, go_r10 G, go_r12 G, go_r13 G, go_r14 G, go_k201 G, go_k273 G, go_k274 G, go_k276 G, st_k T, st_r6 T, st_r7 T, st_r8 T, st_r9 T, st_r10 T, st_r11 T, st_r12 T, st_r13 T, st_k1 T, st_k2 T, st_k3 T, st_k4 T, st_k5 T, st_k6 T, st_ki T, st_i2 T, st_i3 T, st_i4 T, st_i5 T, st_i6 T, st_k8 T, st_k9 T, st_k10 T, st_k11 T, st_k12 T, st_kb T, st_b2 T, st_b3 T, st_b4 T, st_b5 T, st_b6 T, st_k14 T, st_k15 T, st_k16 T, st_k17 T, st_k18 T, m_236y G hl, g, retX_int]
theorem R_203 : PG.2.1 203 = (some .boolean) := rfl
theorem x_203 {E : String} : PG.2.2.1 203 E = none := rfl
theorem m_203n {i : Int32} {u d b c : Nat} {h : Mm} (G : GO h u d b c) (hl : h.mi 200 4 = 0) : dM PG 203 [.ref 200, .int i] h = some (.inr (exN 0), h.thr) := by
  rw [dM_of (Nat.le_of_ble_eq_true rfl)]
  simp -implicitDefEqProofs only [D_203_0, k_203_0, R_203, v_aload_n, v_callV1, aft_v, aft_n, v_iload_n, g_iconst, g_ldc, v_callS3, g_getfield, sv_o, rf_s, v_callV2, g_ireturn, entL, getL, setL, kL_i, kL_r, isI_s, isR_s, isJ_s, gV_s, iV_i, cs0, cs1, cs2, cs3, cs4, dn_nil, kd_si, kd_sl, kd_sw, mr_si, mr_sl, mr_sw, ml_si, ml_sw, mi_sl, go_k G, m_236n G hl, aft_x (x_203)]
theorem m_203x {i : Int32} {u d b c : Nat} {h : Mm} (G : GO h u d b c) (hl : ¬ h.mi 200 4 = 0) (hi : i < 1) : dM PG 203 [.ref 200, .int i] h = some (.inr (exN 2), h.thr) := by
  rw [dM_of (Nat.le_of_ble_eq_true rfl)]
  simp -implicitDefEqProofs only [D_203_0, k_203_0, R_203, v_aload_n, v_callV1, aft_v, aft_n, v_iload_n, g_iconst, g_ldc, v_callS3, g_getfield, sv_o, rf_s, v_callV2, g_ireturn, entL, getL, setL, kL_i, kL_r, isI_s, isR_s, isJ_s, gV_s, iV_i, cs0, cs1, cs2, cs3, cs4, dn_nil, kd_si, kd_sl, kd_sw, mr_si, mr_sl, mr_sw, ml_si, ml_sw, mi_sl, go_k G, m_236y G hl, m_251n (hi := 2147483647) (Or.inl hi), aft_x (x_203)]
theorem m_203y {i : Int32} {u d b c n : Nat} (hn : n ≤ 4) {h : Mm} (G : GO h u d b c) (U : SU h u) (hl : ¬ h.mi 200 4 = 0) (hi : ¬ i < 1) (h8 : h.mi u 8 = Int32.ofNat n) : dM PG 203 [.ref 200, .int i] h = some (.inl (some (.int (b2i (gsGo (h.mi (u + 1)) (h.mi (u + 2)) i n 0)))), h) := by
  rw [dM_of (Nat.le_of_ble_eq_true rfl)]
  have e : i ≤ 2147483647 := by
    rw [Int32.le_iff_toInt_le]
    exact Int32.toInt_le i
  cases cc : gsGo (h.mi (u + 1)) (h.mi (u + 2)) i n 0 with
  | true => simp -implicitDefEqProofs only [D_203_0, k_203_0, R_203, v_aload_n, v_callV1, aft_v, aft_n, v_iload_n, g_iconst, g_ldc, v_callS3, g_getfield, sv_o, rf_s, v_callV2, g_ireturn, entL, getL, setL, kL_i, kL_r, isI_s, isR_s, isJ_s, gV_s, iV_i, cs0, cs1, cs2, cs3, cs4, dn_nil, kd_si, kd_sl, kd_sw, mr_si, mr_sl, mr_sw, ml_si, ml_sw, mi_sl, go_k G, go_r0 G, go_r5 G, go_r6 G, go_r7 G, go_r8 G, go_r10 G, go_r12 G, go_r13 G, go_r14 G, go_k201 G, go_k273 G, go_k274 G, go_k276 G, su_k U, su_r9 U, su_r10 U, su_r12 U, su_r13 U, su_r14 U, su_r15 U, su_k1 U, su_k2 U, su_k3 U, su_k4 U, su_k5 U, su_k6 U, m_236y G hl, m_251y hi e, m_283 hn U h8, cc, b2i_1, rX_1]
  | false => simp -implicitDefEqProofs only [D_203_0, k_203_0, R_203, v_aload_n, v_callV1, aft_v, aft_n, v_iload_n, g_iconst, g_ldc, v_callS3, g_getfield, sv_o, rf_s, v_callV2, g_ireturn, entL, getL, setL, kL_i, kL_r, isI_s, isR_s, isJ_s, gV_s, iV_i, cs0, cs1, cs2, cs3, cs4, dn_nil, kd_si, kd_sl, kd_sw, mr_si, mr_sl, mr_sw, ml_si, ml_sw, mi_sl, go_k G, go_r0 G, go_r5 G, go_r6 G, go_r7 G, go_r8 G, go_r10 G, go_r12 G, go_r13 G, go_r14 G, go_k201 G, go_k273 G, go_k274 G, go_k276 G, su_k U, su_r9 U, su_r10 U, su_r12 U, su_r13 U, su_r14 U, su_r15 U, su_k1 U, su_k2 U, su_k3 U, su_k4 U, su_k5 U, su_k6 U, m_236y G hl, m_251y hi e, m_283 hn U h8, cc, b2i_0, rX_0]
theorem R_207 : PG.2.1 207 = (some .int) := rfl
theorem x_207 {E : String} : PG.2.2.1 207 E = none := rfl
theorem m_207n {i : Int32} {u d b c : Nat} {h : Mm} (G : GO h u d b c) (hl : h.mi 200 4 = 0) : dM PG 207 [.ref 200, .int i] h = some (.inr (exN 0), h.thr) := by
  rw [dM_of (Nat.le_of_ble_eq_true rfl)]
  simp -implicitDefEqProofs only [D_207_0, k_207_0, D_207_33, k_207_33, D_207_43, k_207_43, R_207, v_aload_n, v_callV1, aft_v, aft_n, v_iload_n, g_if_lt, g_getfield, sv_o, rf_s, sv_i, g_isub, g_icmp_lt, g_throw, g_iadd, g_ireturn, entL, getL, setL, kL_i, kL_r, isI_s, isR_s, isJ_s, gV_s, iV_i, cs0, cs1, cs2, cs3, cs4, dn_nil, kd_si, kd_sl, kd_sw, mr_si, mr_sl, mr_sw, ml_si, ml_sw, mi_sl, go_k G, m_236n G hl, aft_x (x_207)]
theorem m_207x {i : Int32} {u d b c : Nat} {h : Mm} (G : GO h u d b c) (T : ST h b) (hl : ¬ h.mi 200 4 = 0) (hi : i < 0 ∨ ¬ i < h.mi (b + 13) 0 - h.mi (b + 13) 1) : dM PG 207 [.ref 200, .int i] h = some (.inr (exN 1), h.thr) := by
  rw [dM_of (Nat.le_of_ble_eq_true rfl)]
  by_cases a : i < 0
  · simp -implicitDefEqProofs only [D_207_0, k_207_0, D_207_33, k_207_33, D_207_43, k_207_43, R_207, v_aload_n, v_callV1, aft_v, aft_n, v_iload_n, g_if_lt, g_getfield, sv_o, rf_s, sv_i, g_isub, g_icmp_lt, g_throw, g_iadd, g_ireturn, entL, getL, setL, kL_i, kL_r, isI_s, isR_s, isJ_s, gV_s, iV_i, cs0, cs1, cs2, cs3, cs4, dn_nil, kd_si, kd_sl, kd_sw, mr_si, mr_sl, mr_sw, ml_si, ml_sw, mi_sl, go_k G, go_r0 G, go_r5 G, go_r6 G, go_r7 G, go_r8 G, go_r10 G, go_r12 G, go_r13 G, go_r14 G, go_k201 G, go_k273 G, go_k274 G, go_k276 G, st_k T, st_r6 T, st_r7 T, st_r8 T, st_r9 T, st_r10 T, st_r11 T, st_r12 T, st_r13 T, st_k1 T, st_k2 T, st_k3 T, st_k4 T, st_k5 T, st_k6 T, st_ki T, st_i2 T, st_i3 T, st_i4 T, st_i5 T, st_i6 T, st_k8 T, st_k9 T, st_k10 T, st_k11 T, st_k12 T, st_kb T, st_b2 T, st_b3 T, st_b4 T, st_b5 T, st_b6 T, st_k14 T, st_k15 T, st_k16 T, st_k17 T, st_k18 T, m_236y G hl, ↓if_pos a, if_pos a]
  · have e : ¬ i < h.mi (b + 13) 0 - h.mi (b + 13) 1 := hi.resolve_left a
    simp -implicitDefEqProofs only [D_207_0, k_207_0, D_207_33, k_207_33, D_207_43, k_207_43, R_207, v_aload_n, v_callV1, aft_v, aft_n, v_iload_n, g_if_lt, g_getfield, sv_o, rf_s, sv_i, g_isub, g_icmp_lt, g_throw, g_iadd, g_ireturn, entL, getL, setL, kL_i, kL_r, isI_s, isR_s, isJ_s, gV_s, iV_i, cs0, cs1, cs2, cs3, cs4, dn_nil, kd_si, kd_sl, kd_sw, mr_si, mr_sl, mr_sw, ml_si, ml_sw, mi_sl, go_k G, go_r0 G, go_r5 G, go_r6 G, go_r7 G, go_r8 G, go_r10 G, go_r12 G, go_r13 G, go_r14 G, go_k201 G, go_k273 G, go_k274 G, go_k276 G, st_k T, st_r6 T, st_r7 T, st_r8 T, st_r9 T, st_r10 T, st_r11 T, st_r12 T, st_r13 T, st_k1 T, st_k2 T, st_k3 T, st_k4 T, st_k5 T, st_k6 T, st_ki T, st_i2 T, st_i3 T, st_i4 T, st_i5 T, st_i6 T, st_k8 T, st_k9 T, st_k10 T, st_k11 T, st_k12 T, st_kb T, st_b2 T, st_b3 T, st_b4 T, st_b5 T, st_b6 T, st_k14 T, st_k15 T, st_k16 T, st_k17 T, st_k18 T, m_236y G hl, ↓if_neg a, if_neg a, ↓if_neg e, if_neg e]
theorem m_207y {i : Int32} {u d b c : Nat} {h : Mm} (G : GO h u d b c) (T : ST h b) (hl : ¬ h.mi 200 4 = 0) (a : ¬ i < 0) (e : i < h.mi (b + 13) 0 - h.mi (b + 13) 1) : dM PG 207 [.ref 200, .int i] h = some (.inl (some (.int (h.mi (b + 13) 1 + i))), h) := by
  rw [dM_of (Nat.le_of_ble_eq_true rfl)]
  simp -implicitDefEqProofs only [D_207_0, k_207_0, D_207_33, k_207_33, D_207_43, k_207_43, R_207, v_aload_n, v_callV1, aft_v, aft_n, v_iload_n, g_if_lt, g_getfield, sv_o, rf_s, sv_i, g_isub, g_icmp_lt, g_throw, g_iadd, g_ireturn, entL, getL, setL, kL_i, kL_r, isI_s, isR_s, isJ_s, gV_s, iV_i, cs0, cs1, cs2, cs3, cs4, dn_nil, kd_si, kd_sl, kd_sw, mr_si, mr_sl, mr_sw, ml_si, ml_sw, mi_sl, go_k G, go_r0 G, go_r5 G, go_r6 G, go_r7 G, go_r8 G, go_r10 G, go_r12 G, go_r13 G, go_r14 G, go_k201 G, go_k273 G, go_k274 G, go_k276 G, st_k T, st_r6 T, st_r7 T, st_r8 T, st_r9 T, st_r10 T, st_r11 T, st_r12 T, st_r13 T, st_k1 T, st_k2 T, st_k3 T, st_k4 T, st_k5 T, st_k6 T, st_ki T, st_i2 T, st_i3 T, st_i4 T, st_i5 T, st_i6 T, st_k8 T, st_k9 T, st_k10 T, st_k11 T, st_k12 T, st_kb T, st_b2 T, st_b3 T, st_b4 T, st_b5 T, st_b6 T, st_k14 T, st_k15 T, st_k16 T, st_k17 T, st_k18 T, m_236y G hl, ↓if_neg a, if_neg a, ↓if_pos e, if_pos e, retX_int]
theorem R_224 : PG.2.1 224 = (some .int) := rfl
theorem x_224 {E : String} : PG.2.2.1 224 E = none := rfl
theorem m_224n {i j : Int32} {u d b c : Nat} {h : Mm} (G : GO h u d b c) (T : ST h b) (hl : h.mi 200 4 = 0) : dM PG 224 [.ref 200, .int i, .int j] h = some (.inr (exN 0), h.thr) := by
  rw [dM_of (Nat.le_of_ble_eq_true rfl)]
  simp -implicitDefEqProofs only [D_224_0, k_224_0, R_224, v_aload_n, v_iload_n, v_callV2, aft_v, aft_n, g_getfield, sv_o, rf_s, v_callV3, g_ireturn, entL, getL, setL, kL_i, kL_r, isI_s, isR_s, isJ_s, gV_s, iV_i, cs0, cs1, cs2, cs3, cs4, dn_nil, kd_si, kd_sl, kd_sw, mr_si, mr_sl, mr_sw, ml_si, ml_sw, mi_sl, go_k G, m_287n G T hl, aft_x (x_224)]
theorem m_224x {i j : Int32} {u d b c : Nat} {h : Mm} (G : GO h u d b c) (T : ST h b) (hl : ¬ h.mi 200 4 = 0) (hi : i < 0 ∨ ¬ i < h.mi (b + 7) 0) : dM PG 224 [.ref 200, .int i, .int j] h = some (.inr (exN 1), h.thr) := by
  rw [dM_of (Nat.le_of_ble_eq_true rfl)]
  simp -implicitDefEqProofs only [D_224_0, k_224_0, R_224, v_aload_n, v_iload_n, v_callV2, aft_v, aft_n, g_getfield, sv_o, rf_s, v_callV3, g_ireturn, entL, getL, setL, kL_i, kL_r, isI_s, isR_s, isJ_s, gV_s, iV_i, cs0, cs1, cs2, cs3, cs4, dn_nil, kd_si, kd_sl, kd_sw, mr_si, mr_sl, mr_sw, ml_si, ml_sw, mi_sl, go_k G, m_287x G T hl hi, aft_x (x_224)]
theorem m_224z {i j : Int32} {u d b c : Nat} {h : Mm} (G : GO h u d b c) (T : ST h b) (U : SU h u) (hl : ¬ h.mi 200 4 = 0) (a : ¬ i < 0) (e : i < h.mi (b + 7) 0) (hj : j < 0 ∨ ¬ j < h.mi u 11) : dM PG 224 [.ref 200, .int i, .int j] h = some (.inr (exN 1), h.thr) := by
  rw [dM_of (Nat.le_of_ble_eq_true rfl)]
  simp -implicitDefEqProofs only [D_224_0, k_224_0, R_224, v_aload_n, v_iload_n, v_callV2, aft_v, aft_n, g_getfield, sv_o, rf_s, v_callV3, g_ireturn, entL, getL, setL, kL_i, kL_r, isI_s, isR_s, isJ_s, gV_s, iV_i, cs0, cs1, cs2, cs3, cs4, dn_nil, kd_si, kd_sl, kd_sw, mr_si, mr_sl, mr_sw, ml_si, ml_sw, mi_sl, go_k G, m_287y G T hl a e, m_250x G U hl hj, aft_x (x_224)]
theorem m_224y {i j : Nat} (hi : i < 80) (hj : j < 4) {u d b c : Nat} {h : Mm} (G : GO h u d b c) (T : ST h b) (U : SU h u) (hl : ¬ h.mi 200 4 = 0) (e : Int32.ofNat i < h.mi (b + 7) 0) (e2 : Int32.ofNat j < h.mi u 11) : dM PG 224 [.ref 200, .int (Int32.ofNat i), .int (Int32.ofNat j)] h = some (.inl (some (.int (h.mi (b + 12) (i * 4 + j)))), h) := by
  rw [dM_of (Nat.le_of_ble_eq_true rfl)]
  have a : ¬ Int32.ofNat i < 0 := i32_0n (by omega)
  have a2 : ¬ Int32.ofNat j < 0 := i32_0n (by omega)
  have g := m_289 hi hj T (R := rowsAt h b)
  rw [sb_id] at g
  have g2 : rowsAt h b 12 (i * 4 + j) = h.mi (b + 12) (i * 4 + j) := rfl
  rw [g2] at g
  simp -implicitDefEqProofs only [D_224_0, k_224_0, R_224, v_aload_n, v_iload_n, v_callV2, aft_v, aft_n, g_getfield, sv_o, rf_s, v_callV3, g_ireturn, entL, getL, setL, kL_i, kL_r, isI_s, isR_s, isJ_s, gV_s, iV_i, cs0, cs1, cs2, cs3, cs4, dn_nil, kd_si, kd_sl, kd_sw, mr_si, mr_sl, mr_sw, ml_si, ml_sw, mi_sl, go_k G, go_r0 G, go_r5 G, go_r6 G, go_r7 G, go_r8 G, go_r10 G, go_r12 G, go_r13 G, go_r14 G, go_k201 G, go_k273 G, go_k274 G, go_k276 G, st_k T, st_r6 T, st_r7 T, st_r8 T, st_r9 T, st_r10 T, st_r11 T, st_r12 T, st_r13 T, st_k1 T, st_k2 T, st_k3 T, st_k4 T, st_k5 T, st_k6 T, st_ki T, st_i2 T, st_i3 T, st_i4 T, st_i5 T, st_i6 T, st_k8 T, st_k9 T, st_k10 T, st_k11 T, st_k12 T, st_kb T, st_b2 T, st_b3 T, st_b4 T, st_b5 T, st_b6 T, st_k14 T, st_k15 T, st_k16 T, st_k17 T, st_k18 T, m_287y G T hl a e, m_250y G U hl a2 e2, g, retX_int]
