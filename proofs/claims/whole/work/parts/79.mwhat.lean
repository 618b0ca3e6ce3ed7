-- ===== the model: what-if questions =====
theorem n285 : (283 : Nat) ≠ 285 := by decide
theorem n279 : (279 : Nat) ≠ 285 := by decide
theorem wk3 {h : Mm} {W : Nat → Int32} : ((h.si 277 0 0).sw 285 W).mi 283 = h.mi 283 := (mi_swo n285).trans (mi_sa k283)
theorem wk9 {h : Mm} {W : Nat → Int32} : ((h.si 277 0 0).sw 285 W).mi 279 = h.mi 279 := (mi_swo n279).trans (mi_sa k279)
theorem m_182w {h : Mm} (H : MO h) {W : Nat → Int32} : dM PG 182 [.ref 277] ((h.si 277 0 0).sw 285 W) = some (.inl none, (h.si 277 0 0).sw 285 (upto 1168 (h.mi 283) W)) := by
  rw [m_182 (h := (h.si 277 0 0).sw 285 W) H, wk3, mi_sw, sw_sw, va_upto]
theorem m_182p {h : Mm} (H : MO h) : dM PG 182 [.ref 277] (h.si 277 0 0) = some (.inl none, (h.si 277 0 0).sw 285 (upto 1168 (h.mi 283) (h.mi 285))) := by
  have g := m_182w H (W := h.mi 285)
  have e := sw_id (h := h.si 277 0 0) (a := 285)
  rw [mi_sa k285] at e
  rw [e] at g
  exact g
theorem R_53 : PG.2.1 53 = (some .int) := rfl
theorem m_53n {i : Int32} {h : Mm} (H : MO h) (hl : h.mi 277 21 = 0) : dM PG 53 [.ref 277, .int i] h = some (.inl (some (.int 0)), h.si 277 0 1) := by
  rw [dM_of (Nat.le_of_ble_eq_true rfl)]
  simp -implicitDefEqProofs only [D_53_0, k_53_0, R_53, v_aload_n, v_iload_n, g_bipush, g_iconst, v_callV4, aft_v, aft_n, g_if_ne, g_ireturn, entL, getL, setL, kL_i, kL_r, isI_s, isR_s, isJ_s, gV_s, iV_i, cs0, cs1, cs2, cs3, cs4, dn_nil, kd_si, kd_sl, kd_sw, mr_si, mr_sl, mr_sw, ml_si, ml_sw, mi_sl, mk_277 H, mk_278 H, mk_279 H, mk_280 H, mk_281 H, mk_282 H, mk_283 H, mk_284 H, mk_285 H, mk_286 H, mk_287 H, mk_288 H, mk_289 H, mr_1 H, mr_11 H, mr_12 H, mr_13 H, mr_14 H, mr_15 H, mr_16 H, mr_17 H, mr_18 H, mr_19 H, mr_24 H, mr_25 H, m_175n H hl, ↓if_true, if_true, retX_int]
theorem m_53x {i : Int32} {h : Mm} (H : MO h) (hl : ¬ h.mi 277 21 = 0) (c : inF i 1 100 = 0) : dM PG 53 [.ref 277, .int i] h = some (.inl (some (.int 0)), h.si 277 0 2) := by
  rw [dM_of (Nat.le_of_ble_eq_true rfl)]
  simp -implicitDefEqProofs only [D_53_0, k_53_0, R_53, v_aload_n, v_iload_n, g_bipush, g_iconst, v_callV4, aft_v, aft_n, g_if_ne, g_ireturn, entL, getL, setL, kL_i, kL_r, isI_s, isR_s, isJ_s, gV_s, iV_i, cs0, cs1, cs2, cs3, cs4, dn_nil, kd_si, kd_sl, kd_sw, mr_si, mr_sl, mr_sw, ml_si, ml_sw, mi_sl, mk_277 H, mk_278 H, mk_279 H, mk_280 H, mk_281 H, mk_282 H, mk_283 H, mk_284 H, mk_285 H, mk_286 H, mk_287 H, mk_288 H, mk_289 H, mr_1 H, mr_11 H, mr_12 H, mr_13 H, mr_14 H, mr_15 H, mr_16 H, mr_17 H, mr_18 H, mr_19 H, mr_24 H, mr_25 H, m_175x (at' := 2) H hl (by decide) c, ↓if_true, if_true, retX_int]
theorem m_53y {i : Int32} {h : Mm} (H : MO h) (hl : ¬ h.mi 277 21 = 0) (c : inF i 1 100 = 1) {W : Nat → Int32} (hr : dM PG 176 [.ref 277, .ref 285, .int i] ((h.si 277 0 0).sw 285 (upto 1168 (h.mi 283) (h.mi 285))) = some (.inl none, (h.si 277 0 0).sw 285 W)) : dM PG 53 [.ref 277, .int i] h = some (.inl (some (.int (W 8 - h.mi 283 8))), (h.si 277 0 0).sw 285 W) := by
  rw [dM_of (Nat.le_of_ble_eq_true rfl)]
  simp -implicitDefEqProofs only [D_53_0, k_53_0, D_53_13, k_53_13, R_53, v_aload_n, v_iload_n, g_bipush, g_iconst, v_callV4, aft_v, aft_n, g_if_ne, g_ireturn, v_callV1, g_getfield, sv_a, rf_s, v_callV3, v_iaload, inI_0, g_isub, entL, getL, setL, kL_i, kL_r, isI_s, isR_s, isJ_s, gV_s, iV_i, cs0, cs1, cs2, cs3, cs4, dn_nil, kd_si, kd_sl, kd_sw, mr_si, mr_sl, mr_sw, ml_si, ml_sw, mi_sl, mk_277 H, mk_278 H, mk_279 H, mk_280 H, mk_281 H, mk_282 H, mk_283 H, mk_284 H, mk_285 H, mk_286 H, mk_287 H, mk_288 H, mk_289 H, mr_1 H, mr_11 H, mr_12 H, mr_13 H, mr_14 H, mr_15 H, mr_16 H, mr_17 H, mr_18 H, mr_19 H, mr_24 H, mr_25 H, m_175y H hl c, ↓if_neg z_1, if_neg z_1, m_182p H, hr, in_8, ix_8, mi_sw, wk3, retX_int]
theorem R_51 : PG.2.1 51 = (some .int) := rfl
theorem m_51n {i : Int32} {h : Mm} (H : MO h) (hl : h.mi 277 21 = 0) : dM PG 51 [.ref 277, .int i] h = some (.inl (some (.int 0)), h.si 277 0 1) := by
  rw [dM_of (Nat.le_of_ble_eq_true rfl)]
  simp -implicitDefEqProofs only [D_51_0, k_51_0, R_51, v_aload_n, v_iload_n, g_bipush, g_iconst, v_callV4, aft_v, aft_n, g_if_ne, g_ireturn, entL, getL, setL, kL_i, kL_r, isI_s, isR_s, isJ_s, gV_s, iV_i, cs0, cs1, cs2, cs3, cs4, dn_nil, kd_si, kd_sl, kd_sw, mr_si, mr_sl, mr_sw, ml_si, ml_sw, mi_sl, mk_277 H, mk_278 H, mk_279 H, mk_280 H, mk_281 H, mk_282 H, mk_283 H, mk_284 H, mk_285 H, mk_286 H, mk_287 H, mk_288 H, mk_289 H, mr_1 H, mr_11 H, mr_12 H, mr_13 H, mr_14 H, mr_15 H, mr_16 H, mr_17 H, mr_18 H, mr_19 H, mr_24 H, mr_25 H, m_175n H hl, ↓if_true, if_true, retX_int]
theorem m_51x {i : Int32} {h : Mm} (H : MO h) (hl : ¬ h.mi 277 21 = 0) (c : inF i 1 100 = 0) : dM PG 51 [.ref 277, .int i] h = some (.inl (some (.int 0)), h.si 277 0 2) := by
  rw [dM_of (Nat.le_of_ble_eq_true rfl)]
  simp -implicitDefEqProofs only [D_51_0, k_51_0, R_51, v_aload_n, v_iload_n, g_bipush, g_iconst, v_callV4, aft_v, aft_n, g_if_ne, g_ireturn, entL, getL, setL, kL_i, kL_r, isI_s, isR_s, isJ_s, gV_s, iV_i, cs0, cs1, cs2, cs3, cs4, dn_nil, kd_si, kd_sl, kd_sw, mr_si, mr_sl, mr_sw, ml_si, ml_sw, mi_sl, mk_277 H, mk_278 H, mk_279 H, mk_280 H, mk_281 H, mk_282 H, mk_283 H, mk_284 H, mk_285 H, mk_286 H, mk_287 H, mk_288 H, mk_289 H, mr_1 H, mr_11 H, mr_12 H, mr_13 H, mr_14 H, mr_15 H, mr_16 H, mr_17 H, mr_18 H, mr_19 H, mr_24 H, mr_25 H, m_175x (at' := 2) H hl (by decide) c, ↓if_true, if_true, retX_int]
theorem m_51y {i : Int32} {m k : Nat} (hmk : m ≤ k) (hk : k ≤ 80) {h : Mm} (H : MO h) (hl : ¬ h.mi 277 21 = 0) (c : inF i 1 100 = 1) (h8 : h.mi 283 8 = Int32.ofNat m) {W : Nat → Int32} (hr : dM PG 176 [.ref 277, .ref 285, .int i] ((h.si 277 0 0).sw 285 (upto 1168 (h.mi 283) (h.mi 285))) = some (.inl none, (h.si 277 0 0).sw 285 W)) (hW : W 8 = Int32.ofNat k) : dM PG 51 [.ref 277, .int i] h = some (.inl (some (.int (fl (ovS W (-1)) (k - m) m 0))), (h.si 277 0 0).sw 285 W) := by
  rw [dM_of (Nat.le_of_ble_eq_true rfl)]
  have g := m_143 (s := 285) (x := -1) hk hmk (h := (h.si 277 0 0).sw 285 W) (mk_285 H) (by rw [mi_sw, hW])
  rw [mi_sw] at g
  simp -implicitDefEqProofs only [D_51_0, k_51_0, D_51_13, k_51_13, R_51, v_aload_n, v_iload_n, g_bipush, g_iconst, v_callV4, aft_v, aft_n, g_if_ne, g_ireturn, v_callV1, g_getfield, sv_a, rf_s, v_callV3, v_iaload, inI_0, v_callS3, entL, getL, setL, kL_i, kL_r, isI_s, isR_s, isJ_s, gV_s, iV_i, cs0, cs1, cs2, cs3, cs4, dn_nil, kd_si, kd_sl, kd_sw, mr_si, mr_sl, mr_sw, ml_si, ml_sw, mi_sl, mk_277 H, mk_278 H, mk_279 H, mk_280 H, mk_281 H, mk_282 H, mk_283 H, mk_284 H, mk_285 H, mk_286 H, mk_287 H, mk_288 H, mk_289 H, mr_1 H, mr_11 H, mr_12 H, mr_13 H, mr_14 H, mr_15 H, mr_16 H, mr_17 H, mr_18 H, mr_19 H, mr_24 H, mr_25 H, m_175y H hl c, ↓if_neg z_1, if_neg z_1, m_182p H, hr, in_8, ix_8, mi_sw, wk3, h8, g, retX_int]
theorem R_49 : PG.2.1 49 = (some .int) := rfl
theorem m_49n {i t : Int32} {h : Mm} (H : MO h) (hl : h.mi 277 21 = 0) : dM PG 49 [.ref 277, .int i, .int t] h = some (.inl (some (.int 0)), h.si 277 0 1) := by
  rw [dM_of (Nat.le_of_ble_eq_true rfl)]
  simp -implicitDefEqProofs only [D_49_0, k_49_0, R_49, v_aload_n, v_iload_n, v_callV2, aft_v, aft_n, g_if_ne, g_iconst, g_ireturn, entL, getL, setL, kL_i, kL_r, isI_s, isR_s, isJ_s, gV_s, iV_i, cs0, cs1, cs2, cs3, cs4, dn_nil, kd_si, kd_sl, kd_sw, mr_si, mr_sl, mr_sw, ml_si, ml_sw, mi_sl, mk_277 H, mk_278 H, mk_279 H, mk_280 H, mk_281 H, mk_282 H, mk_283 H, mk_284 H, mk_285 H, mk_286 H, mk_287 H, mk_288 H, mk_289 H, mr_1 H, mr_11 H, mr_12 H, mr_13 H, mr_14 H, mr_15 H, mr_16 H, mr_17 H, mr_18 H, mr_19 H, mr_24 H, mr_25 H, m_154 H, m_138n H hl, ↓if_true, if_true, retX_int]
theorem m_49x {i t : Int32} {h : Mm} (H : MO h) (hl : ¬ h.mi 277 21 = 0) (c : inF i 0 (h.mi 279 7 - 1) = 0) : dM PG 49 [.ref 277, .int i, .int t] h = some (.inl (some (.int 0)), h.si 277 0 2) := by
  rw [dM_of (Nat.le_of_ble_eq_true rfl)]
  simp -implicitDefEqProofs only [D_49_0, k_49_0, R_49, v_aload_n, v_iload_n, v_callV2, aft_v, aft_n, g_if_ne, g_iconst, g_ireturn, entL, getL, setL, kL_i, kL_r, isI_s, isR_s, isJ_s, gV_s, iV_i, cs0, cs1, cs2, cs3, cs4, dn_nil, kd_si, kd_sl, kd_sw, mr_si, mr_sl, mr_sw, ml_si, ml_sw, mi_sl, mk_277 H, mk_278 H, mk_279 H, mk_280 H, mk_281 H, mk_282 H, mk_283 H, mk_284 H, mk_285 H, mk_286 H, mk_287 H, mk_288 H, mk_289 H, mr_1 H, mr_11 H, mr_12 H, mr_13 H, mr_14 H, mr_15 H, mr_16 H, mr_17 H, mr_18 H, mr_19 H, mr_24 H, mr_25 H, m_154 H, c, m_138x H hl, ↓if_true, if_true, retX_int]
theorem m_49z {i t : Int32} {h : Mm} (H : MO h) (hl : ¬ h.mi 277 21 = 0) (c : inF i 0 (h.mi 279 7 - 1) = 1) (c2 : inF t 1 100 = 0) : dM PG 49 [.ref 277, .int i, .int t] h = some (.inl (some (.int 0)), h.si 277 0 3) := by
  rw [dM_of (Nat.le_of_ble_eq_true rfl)]
  simp -implicitDefEqProofs only [D_49_0, k_49_0, D_49_14, k_49_14, R_49, v_aload_n, v_iload_n, v_callV2, aft_v, aft_n, g_if_ne, g_iconst, g_ireturn, g_bipush, v_callS3, entL, getL, setL, kL_i, kL_r, isI_s, isR_s, isJ_s, gV_s, iV_i, cs0, cs1, cs2, cs3, cs4, dn_nil, kd_si, kd_sl, kd_sw, mr_si, mr_sl, mr_sw, ml_si, ml_sw, mi_sl, mk_277 H, mk_278 H, mk_279 H, mk_280 H, mk_281 H, mk_282 H, mk_283 H, mk_284 H, mk_285 H, mk_286 H, mk_287 H, mk_288 H, mk_289 H, mr_1 H, mr_11 H, mr_12 H, mr_13 H, mr_14 H, mr_15 H, mr_16 H, mr_17 H, mr_18 H, mr_19 H, mr_24 H, mr_25 H, m_154 H, c, m_138y H hl, ↓if_neg z_1, if_neg z_1, m_136, c2, ↓if_true, if_true, m_156' (MO_si H), si_si, retX_int]
theorem m_49y {i : Int32} {t m : Nat} (ht1 : 1 ≤ t) (ht2 : t ≤ 100) {h : Mm} (H : MO h) (hl : ¬ h.mi 277 21 = 0) (c : inF i 0 (h.mi 279 7 - 1) = 1) (h8 : h.mi 283 8 = Int32.ofNat m) (Q : Nat → Nat → Int32) (hQ0 : Q 0 = upto 1168 (h.mi 283) (h.mi 285)) (k : Nat → Nat) (hQ : ∀ j, j < t → dM PG 187 [.ref 277, .ref 285] ((h.si 277 0 0).sw 285 (Q j)) = some (.inl none, (h.si 277 0 0).sw 285 (Q (j + 1))) ∧ Q (j + 1) 8 = Int32.ofNat (k (j + 1)) ∧ m ≤ k (j + 1) ∧ k (j + 1) ≤ 80) : ∃ j, dM PG 49 [.ref 277, .int i, .int (Int32.ofNat t)] h = some (.inl (some (.int (oN (fnd (fun j => decide (0 < fl (bxS (Q j) i) (k j - m) m 0)) t 1)))), (h.si 277 0 0).sw 285 (Q j)) := by
  rw [dM_of (Nat.le_of_ble_eq_true rfl)]
  have c2 : inF (Int32.ofNat t) 1 100 = 1 := by
    unfold inF
    have a1 : ¬ Int32.ofNat t < 1 := by show ¬ Int32.ofNat t < Int32.ofNat 1; rw [i32_lt (by omega) (by omega)]; omega
    have a2 : ¬ (100 : Int32) < Int32.ofNat t := by show ¬ Int32.ofNat 100 < Int32.ofNat t; rw [i32_lt (by omega) (by omega)]; omega
    rw [if_neg a1, if_neg a2]
  have g2 := m_182p H
  rw [← hQ0] at g2
  refine ⟨(match fnd (fun j => decide (0 < fl (bxS (Q j) i) (k j - m) m 0)) t 1 with | none => t | some j => j), ?_⟩
  simp -implicitDefEqProofs only [D_49_0, k_49_0, D_49_14, k_49_14, D_49_30, k_49_30, R_49, v_aload_n, v_iload_n, v_callV2, aft_v, aft_n, g_if_ne, g_iconst, g_ireturn, g_bipush, v_callS3, v_callV1, g_istore_n, entL, getL, setL, kL_i, kL_r, isI_s, isR_s, isJ_s, gV_s, iV_i, cs0, cs1, cs2, cs3, cs4, dn_nil, kd_si, kd_sl, kd_sw, mr_si, mr_sl, mr_sw, ml_si, ml_sw, mi_sl, mk_277 H, mk_278 H, mk_279 H, mk_280 H, mk_281 H, mk_282 H, mk_283 H, mk_284 H, mk_285 H, mk_286 H, mk_287 H, mk_288 H, mk_289 H, mr_1 H, mr_11 H, mr_12 H, mr_13 H, mr_14 H, mr_15 H, mr_16 H, mr_17 H, mr_18 H, mr_19 H, mr_24 H, mr_25 H, m_154 H, c, m_138y H hl, ↓if_neg z_1, if_neg z_1, m_136, c2, g2]
  refine lfm (o := 1) (n := t + 1) (p := fun j => decide (0 < fl (bxS (Q j) i) (k j - m) m 0)) (h := fun j => (h.si 277 0 0).sw 285 (Q (j - 1))) (L := fun j tl => some (.ref 277) :: some (.int i) :: some (.int (Int32.ofNat t)) :: some (.int (Int32.ofNat j)) :: tl) (r := fun o => some (.inl (some (.int (oN o))), (h.si 277 0 0).sw 285 (Q (match o with | none => t | some j => j)))) ?_ ?_ ?_ t 1 [] (by omega) (by omega)
  · intro j tl j0 hj c1
    have d2 : ¬ 0 < fl (bxS (Q j) i) (k j - m) m 0 := of_decide_eq_false c1
    have d3 : fl (bxS (Q j) i) (k j - m) m 0 ≤ 0 := Int32.not_lt.mp d2
    obtain ⟨q1, q2, q3, q4⟩ := hQ (j - 1) (by omega)
    rw [show j - 1 + 1 = j by omega] at q1 q2 q3 q4
    have g3 := m_141 (s := 285) (x := i) q4 q3 (h := (h.si 277 0 0).sw 285 (Q j)) (mk_285 H) (by rw [mi_sw, q2])
    rw [mi_sw] at g3
    have e1 : ¬ Int32.ofNat (t) < Int32.ofNat (j) := by rw [i32_lt (by omega) (by omega)]; omega
    have s1 : Int32.ofNat (j) + 1 = Int32.ofNat (j + 1) := i32_add (b := 1)
    refine ⟨tl, ?_⟩
    rw [D_49_36, Nat.add_sub_cancel]
    simp -implicitDefEqProofs only [D_49_0, k_49_0, D_49_14, k_49_14, D_49_30, k_49_30, k_49_36, D_49_69, k_49_69, D_49_75, k_49_75, R_49, v_aload_n, v_iload_n, v_callV2, aft_v, aft_n, g_if_ne, g_iconst, g_ireturn, g_bipush, v_callS3, v_callV1, g_istore_n, g_icmp_gt, g_getfield, sv_a, rf_s, v_iaload, inI_0, g_if_le, v_iinc, g_goto, entL, getL, setL, kL_i, kL_r, isI_s, isR_s, isJ_s, gV_s, iV_i, cs0, cs1, cs2, cs3, cs4, dn_nil, kd_si, kd_sl, kd_sw, mr_si, mr_sl, mr_sw, ml_si, ml_sw, mi_sl, mk_277 H, mk_278 H, mk_279 H, mk_280 H, mk_281 H, mk_282 H, mk_283 H, mk_284 H, mk_285 H, mk_286 H, mk_287 H, mk_288 H, mk_289 H, mr_1 H, mr_11 H, mr_12 H, mr_13 H, mr_14 H, mr_15 H, mr_16 H, mr_17 H, mr_18 H, mr_19 H, mr_24 H, mr_25 H, ↓if_neg e1, if_neg e1, q1, in_8, ix_8, wk3, h8, g3, ↓if_pos d3, if_pos d3, s1]
  · intro j tl j0 hj c1
    have d2 : 0 < fl (bxS (Q j) i) (k j - m) m 0 := of_decide_eq_true c1
    have d3 : ¬ fl (bxS (Q j) i) (k j - m) m 0 ≤ 0 := Int32.not_le.mpr d2
    obtain ⟨q1, q2, q3, q4⟩ := hQ (j - 1) (by omega)
    rw [show j - 1 + 1 = j by omega] at q1 q2 q3 q4
    have g3 := m_141 (s := 285) (x := i) q4 q3 (h := (h.si 277 0 0).sw 285 (Q j)) (mk_285 H) (by rw [mi_sw, q2])
    rw [mi_sw] at g3
    have e1 : ¬ Int32.ofNat (t) < Int32.ofNat (j) := by rw [i32_lt (by omega) (by omega)]; omega
    rw [D_49_36]
    simp -implicitDefEqProofs only [D_49_0, k_49_0, D_49_14, k_49_14, D_49_30, k_49_30, k_49_36, D_49_69, k_49_69, D_49_75, k_49_75, R_49, v_aload_n, v_iload_n, v_callV2, aft_v, aft_n, g_if_ne, g_iconst, g_ireturn, g_bipush, v_callS3, v_callV1, g_istore_n, g_icmp_gt, g_getfield, sv_a, rf_s, v_iaload, inI_0, g_if_le, v_iinc, g_goto, entL, getL, setL, kL_i, kL_r, isI_s, isR_s, isJ_s, gV_s, iV_i, cs0, cs1, cs2, cs3, cs4, dn_nil, kd_si, kd_sl, kd_sw, mr_si, mr_sl, mr_sw, ml_si, ml_sw, mi_sl, mk_277 H, mk_278 H, mk_279 H, mk_280 H, mk_281 H, mk_282 H, mk_283 H, mk_284 H, mk_285 H, mk_286 H, mk_287 H, mk_288 H, mk_289 H, mr_1 H, mr_11 H, mr_12 H, mr_13 H, mr_14 H, mr_15 H, mr_16 H, mr_17 H, mr_18 H, mr_19 H, mr_24 H, mr_25 H, ↓if_neg e1, if_neg e1, q1, in_8, ix_8, wk3, h8, g3, ↓if_neg d3, if_neg d3, retX_int]
    rfl
  · intro tl
    have e1 : Int32.ofNat (t) < Int32.ofNat (t + 1) := by rw [i32_lt (by omega) (by omega)]; omega
    rw [D_49_36, Nat.add_sub_cancel]
    simp -implicitDefEqProofs only [D_49_0, k_49_0, D_49_14, k_49_14, D_49_30, k_49_30, k_49_36, D_49_69, k_49_69, D_49_75, k_49_75, R_49, v_aload_n, v_iload_n, v_callV2, aft_v, aft_n, g_if_ne, g_iconst, g_ireturn, g_bipush, v_callS3, v_callV1, g_istore_n, g_icmp_gt, g_getfield, sv_a, rf_s, v_iaload, inI_0, g_if_le, v_iinc, g_goto, entL, getL, setL, kL_i, kL_r, isI_s, isR_s, isJ_s, gV_s, iV_i, cs0, cs1, cs2, cs3, cs4, dn_nil, kd_si, kd_sl, kd_sw, mr_si, mr_sl, mr_sw, ml_si, ml_sw, mi_sl, ↓if_pos e1, if_pos e1, retX_int]
    rfl
theorem R_47 : PG.2.1 47 = (some .int) := rfl
theorem m_47n {t : Int32} {h : Mm} (H : MO h) (hl : h.mi 277 21 = 0) : dM PG 47 [.ref 277, .int t] h = some (.inl (some (.int 0)), h.si 277 0 1) := by
  rw [dM_of (Nat.le_of_ble_eq_true rfl)]
  simp -implicitDefEqProofs only [D_47_0, k_47_0, R_47, v_aload_n, v_iload_n, g_bipush, g_iconst, v_callV4, aft_v, aft_n, g_if_ne, g_ireturn, entL, getL, setL, kL_i, kL_r, isI_s, isR_s, isJ_s, gV_s, iV_i, cs0, cs1, cs2, cs3, cs4, dn_nil, kd_si, kd_sl, kd_sw, mr_si, mr_sl, mr_sw, ml_si, ml_sw, mi_sl, mk_277 H, mk_278 H, mk_279 H, mk_280 H, mk_281 H, mk_282 H, mk_283 H, mk_284 H, mk_285 H, mk_286 H, mk_287 H, mk_288 H, mk_289 H, mr_1 H, mr_11 H, mr_12 H, mr_13 H, mr_14 H, mr_15 H, mr_16 H, mr_17 H, mr_18 H, mr_19 H, mr_24 H, mr_25 H, m_175n H hl, ↓if_true, if_true, retX_int]
theorem m_47x {t : Int32} {h : Mm} (H : MO h) (hl : ¬ h.mi 277 21 = 0) (c : inF t 1 100 = 0) : dM PG 47 [.ref 277, .int t] h = some (.inl (some (.int 0)), h.si 277 0 2) := by
  rw [dM_of (Nat.le_of_ble_eq_true rfl)]
  simp -implicitDefEqProofs only [D_47_0, k_47_0, R_47, v_aload_n, v_iload_n, g_bipush, g_iconst, v_callV4, aft_v, aft_n, g_if_ne, g_ireturn, entL, getL, setL, kL_i, kL_r, isI_s, isR_s, isJ_s, gV_s, iV_i, cs0, cs1, cs2, cs3, cs4, dn_nil, kd_si, kd_sl, kd_sw, mr_si, mr_sl, mr_sw, ml_si, ml_sw, mi_sl, mk_277 H, mk_278 H, mk_279 H, mk_280 H, mk_281 H, mk_282 H, mk_283 H, mk_284 H, mk_285 H, mk_286 H, mk_287 H, mk_288 H, mk_289 H, mr_1 H, mr_11 H, mr_12 H, mr_13 H, mr_14 H, mr_15 H, mr_16 H, mr_17 H, mr_18 H, mr_19 H, mr_24 H, mr_25 H, m_175x (at' := 2) H hl (by decide) c, ↓if_true, if_true, retX_int]
theorem m_47y {t m : Nat} (ht1 : 1 ≤ t) (ht2 : t ≤ 100) (hm : m ≤ 80) {h : Mm} (H : MO h) (hl : ¬ h.mi 277 21 = 0) (c : inF (Int32.ofNat t) 1 100 = 1) (h8 : h.mi 283 8 = Int32.ofNat m) (Q : Nat → Nat → Int32) (hQ0 : Q 0 = upto 1168 (h.mi 283) (h.mi 285)) (k : Nat → Nat) (hQ : ∀ j, j < t → dM PG 187 [.ref 277, .ref 285] ((h.si 277 0 0).sw 285 (Q j)) = some (.inl none, (h.si 277 0 0).sw 285 (Q (j + 1))) ∧ Q (j + 1) 8 = Int32.ofNat (k (j + 1)) ∧ k (j + 1) ≤ 80) : ∃ j, dM PG 47 [.ref 277, .int (Int32.ofNat t)] h = some (.inl (some (.int (oN (fnd (fun j => decide (lateF (h.mi 283) m < lateF (Q j) (k j))) t 1)))), (h.si 277 0 0).sw 285 (Q j)) := by
  rw [dM_of (Nat.le_of_ble_eq_true rfl)]
  have g2 := m_182p H
  rw [← hQ0] at g2
  have g1 := m_186 (s := 283) hm (h := h.si 277 0 0) (mk_283 H) (by rw [mi_sa k283, h8])
  rw [mi_sa k283] at g1
  generalize hb0 : lateF (h.mi 283) m = b0 at g1 ⊢
  refine ⟨(match fnd (fun j => decide (b0 < lateF (Q j) (k j))) t 1 with | none => t | some j => j), ?_⟩
  simp -implicitDefEqProofs only [D_47_0, k_47_0, D_47_13, k_47_13, R_47, v_aload_n, v_iload_n, g_bipush, g_iconst, v_callV4, aft_v, aft_n, g_if_ne, g_ireturn, g_getfield, sv_a, rf_s, v_callS1, g_istore_n, v_callV1, entL, getL, setL, kL_i, kL_r, isI_s, isR_s, isJ_s, gV_s, iV_i, cs0, cs1, cs2, cs3, cs4, dn_nil, kd_si, kd_sl, kd_sw, mr_si, mr_sl, mr_sw, ml_si, ml_sw, mi_sl, mk_277 H, mk_278 H, mk_279 H, mk_280 H, mk_281 H, mk_282 H, mk_283 H, mk_284 H, mk_285 H, mk_286 H, mk_287 H, mk_288 H, mk_289 H, mr_1 H, mr_11 H, mr_12 H, mr_13 H, mr_14 H, mr_15 H, mr_16 H, mr_17 H, mr_18 H, mr_19 H, mr_24 H, mr_25 H, m_175y H hl c, ↓if_neg z_1, if_neg z_1, g1, g2]
  refine lfm (o := 1) (n := t + 1) (p := fun j => decide (b0 < lateF (Q j) (k j))) (h := fun j => (h.si 277 0 0).sw 285 (Q (j - 1))) (L := fun j tl => some (.ref 277) :: some (.int (Int32.ofNat t)) :: some (.int b0) :: some (.int (Int32.ofNat j)) :: tl) (r := fun o => some (.inl (some (.int (oN o))), (h.si 277 0 0).sw 285 (Q (match o with | none => t | some j => j)))) ?_ ?_ ?_ t 1 [] (by omega) (by omega)
  · intro j tl j0 hj c1
    have d2 : ¬ b0 < lateF (Q j) (k j) := of_decide_eq_false c1
    have d3 : lateF (Q j) (k j) ≤ b0 := Int32.not_lt.mp d2
    obtain ⟨q1, q2, q4⟩ := hQ (j - 1) (by omega)
    rw [show j - 1 + 1 = j by omega] at q1 q2 q4
    have g3 := m_186 (s := 285) q4 (h := (h.si 277 0 0).sw 285 (Q j)) (mk_285 H) (by rw [mi_sw, q2])
    rw [mi_sw] at g3
    have e1 : ¬ Int32.ofNat (t) < Int32.ofNat (j) := by rw [i32_lt (by omega) (by omega)]; omega
    have s1 : Int32.ofNat (j) + 1 = Int32.ofNat (j + 1) := i32_add (b := 1)
    refine ⟨tl, ?_⟩
    rw [D_47_27, Nat.add_sub_cancel]
    simp -implicitDefEqProofs only [D_47_0, k_47_0, D_47_13, k_47_13, k_47_27, D_47_53, k_47_53, D_47_59, k_47_59, R_47, v_aload_n, v_iload_n, g_bipush, g_iconst, v_callV4, aft_v, aft_n, g_if_ne, g_ireturn, g_getfield, sv_a, rf_s, v_callS1, g_istore_n, v_callV1, g_icmp_gt, v_callV2, g_icmp_le, v_iinc, g_goto, entL, getL, setL, kL_i, kL_r, isI_s, isR_s, isJ_s, gV_s, iV_i, cs0, cs1, cs2, cs3, cs4, dn_nil, kd_si, kd_sl, kd_sw, mr_si, mr_sl, mr_sw, ml_si, ml_sw, mi_sl, mk_277 H, mk_278 H, mk_279 H, mk_280 H, mk_281 H, mk_282 H, mk_283 H, mk_284 H, mk_285 H, mk_286 H, mk_287 H, mk_288 H, mk_289 H, mr_1 H, mr_11 H, mr_12 H, mr_13 H, mr_14 H, mr_15 H, mr_16 H, mr_17 H, mr_18 H, mr_19 H, mr_24 H, mr_25 H, ↓if_neg e1, if_neg e1, q1, g3, ↓if_pos d3, if_pos d3, s1]
  · intro j tl j0 hj c1
    have d2 : b0 < lateF (Q j) (k j) := of_decide_eq_true c1
    have d3 : ¬ lateF (Q j) (k j) ≤ b0 := Int32.not_le.mpr d2
    obtain ⟨q1, q2, q4⟩ := hQ (j - 1) (by omega)
    rw [show j - 1 + 1 = j by omega] at q1 q2 q4
    have g3 := m_186 (s := 285) q4 (h := (h.si 277 0 0).sw 285 (Q j)) (mk_285 H) (by rw [mi_sw, q2])
    rw [mi_sw] at g3
    have e1 : ¬ Int32.ofNat (t) < Int32.ofNat (j) := by rw [i32_lt (by omega) (by omega)]; omega
    rw [D_47_27]
    simp -implicitDefEqProofs only [D_47_0, k_47_0, D_47_13, k_47_13, k_47_27, D_47_53, k_47_53, D_47_59, k_47_59, R_47, v_aload_n, v_iload_n, g_bipush, g_iconst, v_callV4, aft_v, aft_n, g_if_ne, g_ireturn, g_getfield, sv_a, rf_s, v_callS1, g_istore_n, v_callV1, g_icmp_gt, v_callV2, g_icmp_le, v_iinc, g_goto, entL, getL, setL, kL_i, kL_r, isI_s, isR_s, isJ_s, gV_s, iV_i, cs0, cs1, cs2, cs3, cs4, dn_nil, kd_si, kd_sl, kd_sw, mr_si, mr_sl, mr_sw, ml_si, ml_sw, mi_sl, mk_277 H, mk_278 H, mk_279 H, mk_280 H, mk_281 H, mk_282 H, mk_283 H, mk_284 H, mk_285 H, mk_286 H, mk_287 H, mk_288 H, mk_289 H, mr_1 H, mr_11 H, mr_12 H, mr_13 H, mr_14 H, mr_15 H, mr_16 H, mr_17 H, mr_18 H, mr_19 H, mr_24 H, mr_25 H, ↓if_neg e1, if_neg e1, q1, g3, ↓if_neg d3, if_neg d3, retX_int]
    rfl
  · intro tl
    have e1 : Int32.ofNat (t) < Int32.ofNat (t + 1) := by rw [i32_lt (by omega) (by omega)]; omega
    rw [D_47_27, Nat.add_sub_cancel]
    simp -implicitDefEqProofs only [D_47_0, k_47_0, D_47_13, k_47_13, k_47_27, D_47_53, k_47_53, D_47_59, k_47_59, R_47, v_aload_n, v_iload_n, g_bipush, g_iconst, v_callV4, aft_v, aft_n, g_if_ne, g_ireturn, g_getfield, sv_a, rf_s, v_callS1, g_istore_n, v_callV1, g_icmp_gt, v_callV2, g_icmp_le, v_iinc, g_goto, entL, getL, setL, kL_i, kL_r, isI_s, isR_s, isJ_s, gV_s, iV_i, cs0, cs1, cs2, cs3, cs4, dn_nil, kd_si, kd_sl, kd_sw, mr_si, mr_sl, mr_sw, ml_si, ml_sw, mi_sl, ↓if_pos e1, if_pos e1, retX_int]
    rfl
theorem R_45 : PG.2.1 45 = (some .int) := rfl
theorem m_45n {t : Int32} {h : Mm} (H : MO h) (hl : h.mi 277 21 = 0) : dM PG 45 [.ref 277, .int t] h = some (.inl (some (.int 0)), h.si 277 0 1) := by
  rw [dM_of (Nat.le_of_ble_eq_true rfl)]
  simp -implicitDefEqProofs only [D_45_0, k_45_0, R_45, v_aload_n, v_iload_n, g_bipush, g_iconst, v_callV4, aft_v, aft_n, g_if_ne, g_ireturn, entL, getL, setL, kL_i, kL_r, isI_s, isR_s, isJ_s, gV_s, iV_i, cs0, cs1, cs2, cs3, cs4, dn_nil, kd_si, kd_sl, kd_sw, mr_si, mr_sl, mr_sw, ml_si, ml_sw, mi_sl, mk_277 H, mk_278 H, mk_279 H, mk_280 H, mk_281 H, mk_282 H, mk_283 H, mk_284 H, mk_285 H, mk_286 H, mk_287 H, mk_288 H, mk_289 H, mr_1 H, mr_11 H, mr_12 H, mr_13 H, mr_14 H, mr_15 H, mr_16 H, mr_17 H, mr_18 H, mr_19 H, mr_24 H, mr_25 H, m_175n H hl, ↓if_true, if_true, retX_int]
theorem m_45x {t : Int32} {h : Mm} (H : MO h) (hl : ¬ h.mi 277 21 = 0) (c : inF t 1 100 = 0) : dM PG 45 [.ref 277, .int t] h = some (.inl (some (.int 0)), h.si 277 0 2) := by
  rw [dM_of (Nat.le_of_ble_eq_true rfl)]
  simp -implicitDefEqProofs only [D_45_0, k_45_0, R_45, v_aload_n, v_iload_n, g_bipush, g_iconst, v_callV4, aft_v, aft_n, g_if_ne, g_ireturn, entL, getL, setL, kL_i, kL_r, isI_s, isR_s, isJ_s, gV_s, iV_i, cs0, cs1, cs2, cs3, cs4, dn_nil, kd_si, kd_sl, kd_sw, mr_si, mr_sl, mr_sw, ml_si, ml_sw, mi_sl, mk_277 H, mk_278 H, mk_279 H, mk_280 H, mk_281 H, mk_282 H, mk_283 H, mk_284 H, mk_285 H, mk_286 H, mk_287 H, mk_288 H, mk_289 H, mr_1 H, mr_11 H, mr_12 H, mr_13 H, mr_14 H, mr_15 H, mr_16 H, mr_17 H, mr_18 H, mr_19 H, mr_24 H, mr_25 H, m_175x (at' := 2) H hl (by decide) c, ↓if_true, if_true, retX_int]
def mrS (g c : Nat → Int32) (r : Nat) (a : Int32 × Int64 × Int64) : Int32 × Int64 × Int64 := if lg_cmp (c r).toInt64 0 = 0 then a else if lg_cmp a.2.2 0 ≤ 0 ∨ lg_cmp ((g r).toInt64 * a.2.2) (a.2.1 * (c r).toInt64) < 0 then (Int32.ofNat r, (g r).toInt64, (c r).toInt64) else a
theorem m_45y {t : Int32} {m : Nat} (hm : m ≤ 80) {h : Mm} (H : MO h) (hl : ¬ h.mi 277 21 = 0) (c : inF t 1 100 = 1) (h8 : h.mi 283 8 = Int32.ofNat m) (k : Nat → Nat) (g : Nat → Int32) (hr : ∀ Q r, r < 3 → (m ≤ k r ∧ k r ≤ 80) ∧ ∃ Q', dM PG 176 [.ref 277, .ref 285, .int t] ((h.si 277 0 0).sw 285 (zu (upto 1168 (h.mi 283) Q) 1 (Int32.ofNat r))) = some (.inl none, (h.si 277 0 0).sw 285 Q') ∧ Q' 8 = Int32.ofNat (k r) ∧ fl (ovS Q' (-1)) (k r - m) m 0 = g r) : ∃ Q, dM PG 45 [.ref 277, .int t] h = some (.inl (some (.int (fl (mrS g (fun r => Int32.ofNat (k r) - Int32.ofNat m)) 3 0 (0, 0, 0)).1)), (h.si 277 0 0).sw 285 Q) := by
  rw [dM_of (Nat.le_of_ble_eq_true rfl)]
  simp -implicitDefEqProofs only [D_45_0, k_45_0, D_45_13, k_45_13, R_45, v_aload_n, v_iload_n, g_bipush, g_iconst, v_callV4, aft_v, aft_n, g_if_ne, g_ireturn, g_istore_n, g_lconst, g_lstore_n, g_lstore, g_istore, entL, getL, setL, kL_i, kL_r, isI_s, isR_s, isJ_s, gV_s, iV_i, cs0, cs1, cs2, cs3, cs4, dn_nil, kd_si, kd_sl, kd_sw, mr_si, mr_sl, mr_sw, ml_si, ml_sw, mi_sl, mk_277 H, mk_278 H, mk_279 H, mk_280 H, mk_281 H, mk_282 H, mk_283 H, mk_284 H, mk_285 H, mk_286 H, mk_287 H, mk_288 H, mk_289 H, mr_1 H, mr_11 H, mr_12 H, mr_13 H, mr_14 H, mr_15 H, mr_16 H, mr_17 H, mr_18 H, mr_19 H, mr_24 H, mr_25 H, m_175y H hl c, ↓if_neg z_1, if_neg z_1, setL2, nonL, kL_n, kL_j]
  obtain ⟨tl', h', ⟨-, Q, rfl⟩, e⟩ := lpe (P := PG) (y := 45) (pc := 23) (n := 3) (o := 0) (K := fun tl h' => tl2J tl ∧ ∃ Q, h' = (h.si 277 0 0).sw 285 Q) (f := mrS g (fun r => Int32.ofNat (k r) - Int32.ofNat m)) (L := fun r a tl => some (.ref 277) :: some (.int t) :: some (.int a.1) :: some (.long a.2.1) :: none :: some (.long a.2.2) :: none :: some (.int (Int32.ofNat r)) :: tl) (r := fun a h' => some (.inl (some (.int a.1)), h')) (by
    intro r a tl h' _ hr3 hK
    obtain ⟨ht, Q, rfl⟩ := hK
    obtain ⟨⟨k1, k2⟩, Q', e1, e2, e3⟩ := hr Q r hr3
    have z : ¬ (3 : Int32) ≤ Int32.ofNat r := by
      show ¬ Int32.ofNat 3 ≤ Int32.ofNat r
      rw [i32_le (by omega) (by omega)]; omega
    have s1 : Int32.ofNat (r) + 1 = Int32.ofNat (r + 1) := i32_add (b := 1)
    have g1 := m_182w H (W := Q)
    have g2 := m_143 (s := 285) (x := -1) k2 k1 (h := (h.si 277 0 0).sw 285 Q') (mk_285 H) (by rw [mi_sw, e2])
    rw [mi_sw, e3] at g2
    refine ⟨[some (.long (g r).toInt64), none, some (.long (Int32.ofNat (k r) - Int32.ofNat m).toInt64)], (h.si 277 0 0).sw 285 Q', ⟨Or.inr ⟨_, _, rfl⟩, Q', rfl⟩, ?_⟩
    dsimp only [mrS]
    rcases ht with rfl | ⟨x, y, rfl⟩
    · by_cases c1 : lg_cmp (Int32.ofNat (k r) - Int32.ofNat m).toInt64 0 = 0
      · rw [if_pos c1, D_45_23]
        simp -implicitDefEqProofs only [D_45_0, k_45_0, D_45_13, k_45_13, k_45_23, D_45_116, k_45_116, D_45_126, k_45_126, D_45_132, k_45_132, R_45, v_aload_n, v_iload_n, g_bipush, g_iconst, v_callV4, aft_v, aft_n, g_if_ne, g_ireturn, g_istore_n, g_lconst, g_lstore_n, g_lstore, g_istore, v_iload, g_icmp_ge, v_callV1, g_getfield, sv_a, rf_s, v_iastore, wrI_0, v_callV3, v_iaload, inI_0, v_callS3, g_i2l, g_isub, v_lload, g_lcmp, g_if_eq, g_if_le, g_lmul, v_lload_n, g_if_lt, g_goto, v_iinc, entL, getL, setL, kL_i, kL_r, isI_s, isR_s, isJ_s, gV_s, iV_i, cs0, cs1, cs2, cs3, cs4, dn_nil, kd_si, kd_sl, kd_sw, mr_si, mr_sl, mr_sw, ml_si, ml_sw, mi_sl, mk_277 H, mk_278 H, mk_279 H, mk_280 H, mk_281 H, mk_282 H, mk_283 H, mk_284 H, mk_285 H, mk_286 H, mk_287 H, mk_288 H, mk_289 H, mr_1 H, mr_11 H, mr_12 H, mr_13 H, mr_14 H, mr_15 H, mr_16 H, mr_17 H, mr_18 H, mr_19 H, mr_24 H, mr_25 H, g1, in_1, ix_1, in_8, ix_8, si_sw (a := 285), sw_sw, mi_sw, wk3, h8, e1, e2, g2, setL2, nonL, kL_n, kL_j, ↓if_neg z, if_neg z, s1, ↓if_pos c1, if_pos c1]
      · rw [if_neg c1]
        by_cases c2 : lg_cmp a.2.2 0 ≤ 0
        · rw [if_pos (Or.inl c2), D_45_23]
          simp -implicitDefEqProofs only [D_45_0, k_45_0, D_45_13, k_45_13, k_45_23, D_45_116, k_45_116, D_45_126, k_45_126, D_45_132, k_45_132, R_45, v_aload_n, v_iload_n, g_bipush, g_iconst, v_callV4, aft_v, aft_n, g_if_ne, g_ireturn, g_istore_n, g_lconst, g_lstore_n, g_lstore, g_istore, v_iload, g_icmp_ge, v_callV1, g_getfield, sv_a, rf_s, v_iastore, wrI_0, v_callV3, v_iaload, inI_0, v_callS3, g_i2l, g_isub, v_lload, g_lcmp, g_if_eq, g_if_le, g_lmul, v_lload_n, g_if_lt, g_goto, v_iinc, entL, getL, setL, kL_i, kL_r, isI_s, isR_s, isJ_s, gV_s, iV_i, cs0, cs1, cs2, cs3, cs4, dn_nil, kd_si, kd_sl, kd_sw, mr_si, mr_sl, mr_sw, ml_si, ml_sw, mi_sl, mk_277 H, mk_278 H, mk_279 H, mk_280 H, mk_281 H, mk_282 H, mk_283 H, mk_284 H, mk_285 H, mk_286 H, mk_287 H, mk_288 H, mk_289 H, mr_1 H, mr_11 H, mr_12 H, mr_13 H, mr_14 H, mr_15 H, mr_16 H, mr_17 H, mr_18 H, mr_19 H, mr_24 H, mr_25 H, g1, in_1, ix_1, in_8, ix_8, si_sw (a := 285), sw_sw, mi_sw, wk3, h8, e1, e2, g2, setL2, nonL, kL_n, kL_j, ↓if_neg z, if_neg z, s1, ↓if_neg c1, if_neg c1, ↓if_pos c2, if_pos c2]
        · by_cases c3 : lg_cmp ((g r).toInt64 * a.2.2) (a.2.1 * (Int32.ofNat (k r) - Int32.ofNat m).toInt64) < 0
          · rw [if_pos (Or.inr c3), D_45_23]
            simp -implicitDefEqProofs only [D_45_0, k_45_0, D_45_13, k_45_13, k_45_23, D_45_116, k_45_116, D_45_126, k_45_126, D_45_132, k_45_132, R_45, v_aload_n, v_iload_n, g_bipush, g_iconst, v_callV4, aft_v, aft_n, g_if_ne, g_ireturn, g_istore_n, g_lconst, g_lstore_n, g_lstore, g_istore, v_iload, g_icmp_ge, v_callV1, g_getfield, sv_a, rf_s, v_iastore, wrI_0, v_callV3, v_iaload, inI_0, v_callS3, g_i2l, g_isub, v_lload, g_lcmp, g_if_eq, g_if_le, g_lmul, v_lload_n, g_if_lt, g_goto, v_iinc, entL, getL, setL, kL_i, kL_r, isI_s, isR_s, isJ_s, gV_s, iV_i, cs0, cs1, cs2, cs3, cs4, dn_nil, kd_si, kd_sl, kd_sw, mr_si, mr_sl, mr_sw, ml_si, ml_sw, mi_sl, mk_277 H, mk_278 H, mk_279 H, mk_280 H, mk_281 H, mk_282 H, mk_283 H, mk_284 H, mk_285 H, mk_286 H, mk_287 H, mk_288 H, mk_289 H, mr_1 H, mr_11 H, mr_12 H, mr_13 H, mr_14 H, mr_15 H, mr_16 H, mr_17 H, mr_18 H, mr_19 H, mr_24 H, mr_25 H, g1, in_1, ix_1, in_8, ix_8, si_sw (a := 285), sw_sw, mi_sw, wk3, h8, e1, e2, g2, setL2, nonL, kL_n, kL_j, ↓if_neg z, if_neg z, s1, ↓if_neg c1, if_neg c1, ↓if_neg c2, if_neg c2, ↓if_pos c3, if_pos c3]
          · rw [if_neg (fun q => q.elim c2 c3), D_45_23]
            simp -implicitDefEqProofs only [D_45_0, k_45_0, D_45_13, k_45_13, k_45_23, D_45_116, k_45_116, D_45_126, k_45_126, D_45_132, k_45_132, R_45, v_aload_n, v_iload_n, g_bipush, g_iconst, v_callV4, aft_v, aft_n, g_if_ne, g_ireturn, g_istore_n, g_lconst, g_lstore_n, g_lstore, g_istore, v_iload, g_icmp_ge, v_callV1, g_getfield, sv_a, rf_s, v_iastore, wrI_0, v_callV3, v_iaload, inI_0, v_callS3, g_i2l, g_isub, v_lload, g_lcmp, g_if_eq, g_if_le, g_lmul, v_lload_n, g_if_lt, g_goto, v_iinc, entL, getL, setL, kL_i, kL_r, isI_s, isR_s, isJ_s, gV_s, iV_i, cs0, cs1, cs2, cs3, cs4, dn_nil, kd_si, kd_sl, kd_sw, mr_si, mr_sl, mr_sw, ml_si, ml_sw, mi_sl, mk_277 H, mk_278 H, mk_279 H, mk_280 H, mk_281 H, mk_282 H, mk_283 H, mk_284 H, mk_285 H, mk_286 H, mk_287 H, mk_288 H, mk_289 H, mr_1 H, mr_11 H, mr_12 H, mr_13 H, mr_14 H, mr_15 H, mr_16 H, mr_17 H, mr_18 H, mr_19 H, mr_24 H, mr_25 H, g1, in_1, ix_1, in_8, ix_8, si_sw (a := 285), sw_sw, mi_sw, wk3, h8, e1, e2, g2, setL2, nonL, kL_n, kL_j, ↓if_neg z, if_neg z, s1, ↓if_neg c1, if_neg c1, ↓if_neg c2, if_neg c2, ↓if_neg c3, if_neg c3]
    · by_cases c1 : lg_cmp (Int32.ofNat (k r) - Int32.ofNat m).toInt64 0 = 0
      · rw [if_pos c1, D_45_23]
        simp -implicitDefEqProofs only [D_45_0, k_45_0, D_45_13, k_45_13, k_45_23, D_45_116, k_45_116, D_45_126, k_45_126, D_45_132, k_45_132, R_45, v_aload_n, v_iload_n, g_bipush, g_iconst, v_callV4, aft_v, aft_n, g_if_ne, g_ireturn, g_istore_n, g_lconst, g_lstore_n, g_lstore, g_istore, v_iload, g_icmp_ge, v_callV1, g_getfield, sv_a, rf_s, v_iastore, wrI_0, v_callV3, v_iaload, inI_0, v_callS3, g_i2l, g_isub, v_lload, g_lcmp, g_if_eq, g_if_le, g_lmul, v_lload_n, g_if_lt, g_goto, v_iinc, entL, getL, setL, kL_i, kL_r, isI_s, isR_s, isJ_s, gV_s, iV_i, cs0, cs1, cs2, cs3, cs4, dn_nil, kd_si, kd_sl, kd_sw, mr_si, mr_sl, mr_sw, ml_si, ml_sw, mi_sl, mk_277 H, mk_278 H, mk_279 H, mk_280 H, mk_281 H, mk_282 H, mk_283 H, mk_284 H, mk_285 H, mk_286 H, mk_287 H, mk_288 H, mk_289 H, mr_1 H, mr_11 H, mr_12 H, mr_13 H, mr_14 H, mr_15 H, mr_16 H, mr_17 H, mr_18 H, mr_19 H, mr_24 H, mr_25 H, g1, in_1, ix_1, in_8, ix_8, si_sw (a := 285), sw_sw, mi_sw, wk3, h8, e1, e2, g2, setL2, nonL, kL_n, kL_j, ↓if_neg z, if_neg z, s1, ↓if_pos c1, if_pos c1]
      · rw [if_neg c1]
        by_cases c2 : lg_cmp a.2.2 0 ≤ 0
        · rw [if_pos (Or.inl c2), D_45_23]
          simp -implicitDefEqProofs only [D_45_0, k_45_0, D_45_13, k_45_13, k_45_23, D_45_116, k_45_116, D_45_126, k_45_126, D_45_132, k_45_132, R_45, v_aload_n, v_iload_n, g_bipush, g_iconst, v_callV4, aft_v, aft_n, g_if_ne, g_ireturn, g_istore_n, g_lconst, g_lstore_n, g_lstore, g_istore, v_iload, g_icmp_ge, v_callV1, g_getfield, sv_a, rf_s, v_iastore, wrI_0, v_callV3, v_iaload, inI_0, v_callS3, g_i2l, g_isub, v_lload, g_lcmp, g_if_eq, g_if_le, g_lmul, v_lload_n, g_if_lt, g_goto, v_iinc, entL, getL, setL, kL_i, kL_r, isI_s, isR_s, isJ_s, gV_s, iV_i, cs0, cs1, cs2, cs3, cs4, dn_nil, kd_si, kd_sl, kd_sw, mr_si, mr_sl, mr_sw, ml_si, ml_sw, mi_sl, mk_277 H, mk_278 H, mk_279 H, mk_280 H, mk_281 H, mk_282 H, mk_283 H, mk_284 H, mk_285 H, mk_286 H, mk_287 H, mk_288 H, mk_289 H, mr_1 H, mr_11 H, mr_12 H, mr_13 H, mr_14 H, mr_15 H, mr_16 H, mr_17 H, mr_18 H, mr_19 H, mr_24 H, mr_25 H, g1, in_1, ix_1, in_8, ix_8, si_sw (a := 285), sw_sw, mi_sw, wk3, h8, e1, e2, g2, setL2, nonL, kL_n, kL_j, ↓if_neg z, if_neg z, s1, ↓if_neg c1, if_neg c1, ↓if_pos c2, if_pos c2]
        · by_cases c3 : lg_cmp ((g r).toInt64 * a.2.2) (a.2.1 * (Int32.ofNat (k r) - Int32.ofNat m).toInt64) < 0
          · rw [if_pos (Or.inr c3), D_45_23]
            simp -implicitDefEqProofs only [D_45_0, k_45_0, D_45_13, k_45_13, k_45_23, D_45_116, k_45_116, D_45_126, k_45_126, D_45_132, k_45_132, R_45, v_aload_n, v_iload_n, g_bipush, g_iconst, v_callV4, aft_v, aft_n, g_if_ne, g_ireturn, g_istore_n, g_lconst, g_lstore_n, g_lstore, g_istore, v_iload, g_icmp_ge, v_callV1, g_getfield, sv_a, rf_s, v_iastore, wrI_0, v_callV3, v_iaload, inI_0, v_callS3, g_i2l, g_isub, v_lload, g_lcmp, g_if_eq, g_if_le, g_lmul, v_lload_n, g_if_lt, g_goto, v_iinc, entL, getL, setL, kL_i, kL_r, isI_s, isR_s, isJ_s, gV_s, iV_i, cs0, cs1, cs2, cs3, cs4, dn_nil, kd_si, kd_sl, kd_sw, mr_si, mr_sl, mr_sw, ml_si, ml_sw, mi_sl, mk_277 H, mk_278 H, mk_279 H, mk_280 H, mk_281 H, mk_282 H, mk_283 H, mk_284 H, mk_285 H, mk_286 H, mk_287 H, mk_288 H, mk_289 H, mr_1 H, mr_11 H, mr_12 H, mr_13 H, mr_14 H, mr_15 H, mr_16 H, mr_17 H, mr_18 H, mr_19 H, mr_24 H, mr_25 H, g1, in_1, ix_1, in_8, ix_8, si_sw (a := 285), sw_sw, mi_sw, wk3, h8, e1, e2, g2, setL2, nonL, kL_n, kL_j, ↓if_neg z, if_neg z, s1, ↓if_neg c1, if_neg c1, ↓if_neg c2, if_neg c2, ↓if_pos c3, if_pos c3]
          · rw [if_neg (fun q => q.elim c2 c3), D_45_23]
            simp -implicitDefEqProofs only [D_45_0, k_45_0, D_45_13, k_45_13, k_45_23, D_45_116, k_45_116, D_45_126, k_45_126, D_45_132, k_45_132, R_45, v_aload_n, v_iload_n, g_bipush, g_iconst, v_callV4, aft_v, aft_n, g_if_ne, g_ireturn, g_istore_n, g_lconst, g_lstore_n, g_lstore, g_istore, v_iload, g_icmp_ge, v_callV1, g_getfield, sv_a, rf_s, v_iastore, wrI_0, v_callV3, v_iaload, inI_0, v_callS3, g_i2l, g_isub, v_lload, g_lcmp, g_if_eq, g_if_le, g_lmul, v_lload_n, g_if_lt, g_goto, v_iinc, entL, getL, setL, kL_i, kL_r, isI_s, isR_s, isJ_s, gV_s, iV_i, cs0, cs1, cs2, cs3, cs4, dn_nil, kd_si, kd_sl, kd_sw, mr_si, mr_sl, mr_sw, ml_si, ml_sw, mi_sl, mk_277 H, mk_278 H, mk_279 H, mk_280 H, mk_281 H, mk_282 H, mk_283 H, mk_284 H, mk_285 H, mk_286 H, mk_287 H, mk_288 H, mk_289 H, mr_1 H, mr_11 H, mr_12 H, mr_13 H, mr_14 H, mr_15 H, mr_16 H, mr_17 H, mr_18 H, mr_19 H, mr_24 H, mr_25 H, g1, in_1, ix_1, in_8, ix_8, si_sw (a := 285), sw_sw, mi_sw, wk3, h8, e1, e2, g2, setL2, nonL, kL_n, kL_j, ↓if_neg z, if_neg z, s1, ↓if_neg c1, if_neg c1, ↓if_neg c2, if_neg c2, ↓if_neg c3, if_neg c3]) (by
    intro a tl h' hK
    have z : (3 : Int32) ≤ Int32.ofNat 3 := by decide
    rw [D_45_23]
    simp -implicitDefEqProofs only [D_45_0, k_45_0, D_45_13, k_45_13, k_45_23, D_45_116, k_45_116, D_45_126, k_45_126, D_45_132, k_45_132, R_45, v_aload_n, v_iload_n, g_bipush, g_iconst, v_callV4, aft_v, aft_n, g_if_ne, g_ireturn, g_istore_n, g_lconst, g_lstore_n, g_lstore, g_istore, v_iload, g_icmp_ge, v_callV1, g_getfield, sv_a, rf_s, v_iastore, wrI_0, v_callV3, v_iaload, inI_0, v_callS3, g_i2l, g_isub, v_lload, g_lcmp, g_if_eq, g_if_le, g_lmul, v_lload_n, g_if_lt, g_goto, v_iinc, entL, getL, setL, kL_i, kL_r, isI_s, isR_s, isJ_s, gV_s, iV_i, cs0, cs1, cs2, cs3, cs4, dn_nil, kd_si, kd_sl, kd_sw, mr_si, mr_sl, mr_sw, ml_si, ml_sw, mi_sl, ↓if_pos z, if_pos z, retX_int]) 3 0 (0, 0, 0) [] ((h.si 277 0 0).sw 285 (h.mi 285)) (by omega) (by omega) ⟨Or.inl rfl, _, rfl⟩
  have e0 := sw_id (h := h.si 277 0 0) (a := 285)
  rw [mi_sa k285] at e0
  rw [e0] at e
  exact ⟨Q, e⟩
theorem R_41 : PG.2.1 41 = (some .int) := rfl
theorem m_41n {t : Int32} {h : Mm} (H : MO h) (hl : h.mi 277 21 = 0) : dM PG 41 [.ref 277, .int t] h = some (.inl (some (.int 0)), h.si 277 0 1) := by
  rw [dM_of (Nat.le_of_ble_eq_true rfl)]
  simp -implicitDefEqProofs only [D_41_0, k_41_0, R_41, v_aload_n, v_iload_n, g_bipush, g_iconst, v_callV4, aft_v, aft_n, g_if_ne, g_ireturn, entL, getL, setL, kL_i, kL_r, isI_s, isR_s, isJ_s, gV_s, iV_i, cs0, cs1, cs2, cs3, cs4, dn_nil, kd_si, kd_sl, kd_sw, mr_si, mr_sl, mr_sw, ml_si, ml_sw, mi_sl, mk_277 H, mk_278 H, mk_279 H, mk_280 H, mk_281 H, mk_282 H, mk_283 H, mk_284 H, mk_285 H, mk_286 H, mk_287 H, mk_288 H, mk_289 H, mr_1 H, mr_11 H, mr_12 H, mr_13 H, mr_14 H, mr_15 H, mr_16 H, mr_17 H, mr_18 H, mr_19 H, mr_24 H, mr_25 H, m_175n H hl, ↓if_true, if_true, retX_int]
theorem m_41x {t : Int32} {h : Mm} (H : MO h) (hl : ¬ h.mi 277 21 = 0) (c : inF t 1 60 = 0) : dM PG 41 [.ref 277, .int t] h = some (.inl (some (.int 0)), h.si 277 0 2) := by
  rw [dM_of (Nat.le_of_ble_eq_true rfl)]
  simp -implicitDefEqProofs only [D_41_0, k_41_0, R_41, v_aload_n, v_iload_n, g_bipush, g_iconst, v_callV4, aft_v, aft_n, g_if_ne, g_ireturn, entL, getL, setL, kL_i, kL_r, isI_s, isR_s, isJ_s, gV_s, iV_i, cs0, cs1, cs2, cs3, cs4, dn_nil, kd_si, kd_sl, kd_sw, mr_si, mr_sl, mr_sw, ml_si, ml_sw, mi_sl, mk_277 H, mk_278 H, mk_279 H, mk_280 H, mk_281 H, mk_282 H, mk_283 H, mk_284 H, mk_285 H, mk_286 H, mk_287 H, mk_288 H, mk_289 H, mr_1 H, mr_11 H, mr_12 H, mr_13 H, mr_14 H, mr_15 H, mr_16 H, mr_17 H, mr_18 H, mr_19 H, mr_24 H, mr_25 H, m_175x (at' := 2) H hl (by decide) c, ↓if_true, if_true, retX_int]
def mlS (g : Nat → Int32) (r : Nat) (a : Int32 × Int32) : Int32 × Int32 := if a.1 = -1 ∨ g r < a.2 then (Int32.ofNat (10 * r), g r) else a
theorem m_41y {t : Int32} {m : Nat} (hm : m ≤ 80) {h : Mm} (H : MO h) (hl : ¬ h.mi 277 21 = 0) (c : inF t 1 60 = 1) (h8 : h.mi 283 8 = Int32.ofNat m) (g : Nat → Int32) (hr : ∀ Q r, r < 101 → ∃ Q' k, dM PG 176 [.ref 277, .ref 285, .int t] ((h.si 277 0 0).sw 285 (zu (upto 1168 (h.mi 283) Q) 2 (Int32.ofNat (10 * r)))) = some (.inl none, (h.si 277 0 0).sw 285 Q') ∧ Q' 8 = Int32.ofNat k ∧ m ≤ k ∧ k ≤ 80 ∧ fl (ovS Q' (-1)) (k - m) m 0 - 100 * (Int32.ofNat k - Int32.ofNat m) = g r) : ∃ Q, dM PG 41 [.ref 277, .int t] h = some (.inl (some (.int (fl (mlS g) 101 0 (-1, 0)).1)), (h.si 277 0 0).sw 285 Q) := by
  rw [dM_of (Nat.le_of_ble_eq_true rfl)]
  simp -implicitDefEqProofs only [D_41_0, k_41_0, D_41_13, k_41_13, R_41, v_aload_n, v_iload_n, g_bipush, g_iconst, v_callV4, aft_v, aft_n, g_if_ne, g_ireturn, g_istore_n, g_istore, entL, getL, setL, kL_i, kL_r, isI_s, isR_s, isJ_s, gV_s, iV_i, cs0, cs1, cs2, cs3, cs4, dn_nil, kd_si, kd_sl, kd_sw, mr_si, mr_sl, mr_sw, ml_si, ml_sw, mi_sl, mk_277 H, mk_278 H, mk_279 H, mk_280 H, mk_281 H, mk_282 H, mk_283 H, mk_284 H, mk_285 H, mk_286 H, mk_287 H, mk_288 H, mk_289 H, mr_1 H, mr_11 H, mr_12 H, mr_13 H, mr_14 H, mr_15 H, mr_16 H, mr_17 H, mr_18 H, mr_19 H, mr_24 H, mr_25 H, m_175y H hl c, ↓if_neg z_1, if_neg z_1]
  obtain ⟨tl', h', ⟨Q, rfl⟩, e⟩ := lpe (P := PG) (y := 41) (pc := 20) (n := 101) (o := 0) (K := fun tl h' => ∃ Q, h' = (h.si 277 0 0).sw 285 Q) (f := mlS g) (L := fun r a tl => some (.ref 277) :: some (.int t) :: some (.int a.1) :: some (.int a.2) :: some (.int (Int32.ofNat (10 * r))) :: tl) (r := fun a h' => some (.inl (some (.int a.1)), h')) (by
    intro r a tl h' _ hr3 hK
    obtain ⟨Q, rfl⟩ := hK
    obtain ⟨Q', k, e1, e2, k1, k2, e3⟩ := hr Q r hr3
    have z : ¬ (1000 : Int32) < Int32.ofNat (10 * r) := by
      show ¬ Int32.ofNat 1000 < Int32.ofNat (10 * r)
      rw [i32_lt (by omega) (by omega)]; omega
    have s1 : Int32.ofNat (10 * r) + 10 = Int32.ofNat (10 * (r + 1)) := i32_add (b := 10)
    have g1 := m_182w H (W := Q)
    have g2 := m_143 (s := 285) (x := -1) k2 k1 (h := (h.si 277 0 0).sw 285 Q') (mk_285 H) (by rw [mi_sw, e2])
    rw [mi_sw] at g2
    refine ⟨some (.int (g r)) :: tl.tail, (h.si 277 0 0).sw 285 Q', ⟨Q', rfl⟩, ?_⟩
    dsimp only [mlS]
    by_cases c1 : a.1 = -1
    · rw [if_pos (Or.inl c1), D_41_20]
      simp -implicitDefEqProofs only [D_41_0, k_41_0, D_41_13, k_41_13, k_41_20, D_41_99, k_41_99, D_41_105, k_41_105, D_41_111, k_41_111, R_41, v_aload_n, v_iload_n, g_bipush, g_iconst, v_callV4, aft_v, aft_n, g_if_ne, g_ireturn, g_istore_n, g_istore, v_iload, g_sipush, g_icmp_gt, v_callV1, g_getfield, sv_a, rf_s, v_iastore, wrI_0, v_callV3, v_iaload, inI_0, v_callS3, g_isub, g_imul, g_icmp_eq, g_icmp_lt, g_goto, v_iinc, entL, getL, setL, kL_i, kL_r, isI_s, isR_s, isJ_s, gV_s, iV_i, cs0, cs1, cs2, cs3, cs4, dn_nil, kd_si, kd_sl, kd_sw, mr_si, mr_sl, mr_sw, ml_si, ml_sw, mi_sl, mk_277 H, mk_278 H, mk_279 H, mk_280 H, mk_281 H, mk_282 H, mk_283 H, mk_284 H, mk_285 H, mk_286 H, mk_287 H, mk_288 H, mk_289 H, mr_1 H, mr_11 H, mr_12 H, mr_13 H, mr_14 H, mr_15 H, mr_16 H, mr_17 H, mr_18 H, mr_19 H, mr_24 H, mr_25 H, g1, in_2, ix_2, in_8, ix_8, si_sw (a := 285), sw_sw, mi_sw, wk3, h8, e1, e2, g2, e3, setL_0, ↓if_neg z, if_neg z, ↓if_pos c1, if_pos c1, s1]
    · by_cases c2 : g r < a.2
      · rw [if_pos (Or.inr c2), D_41_20]
        simp -implicitDefEqProofs only [D_41_0, k_41_0, D_41_13, k_41_13, k_41_20, D_41_99, k_41_99, D_41_105, k_41_105, D_41_111, k_41_111, R_41, v_aload_n, v_iload_n, g_bipush, g_iconst, v_callV4, aft_v, aft_n, g_if_ne, g_ireturn, g_istore_n, g_istore, v_iload, g_sipush, g_icmp_gt, v_callV1, g_getfield, sv_a, rf_s, v_iastore, wrI_0, v_callV3, v_iaload, inI_0, v_callS3, g_isub, g_imul, g_icmp_eq, g_icmp_lt, g_goto, v_iinc, entL, getL, setL, kL_i, kL_r, isI_s, isR_s, isJ_s, gV_s, iV_i, cs0, cs1, cs2, cs3, cs4, dn_nil, kd_si, kd_sl, kd_sw, mr_si, mr_sl, mr_sw, ml_si, ml_sw, mi_sl, mk_277 H, mk_278 H, mk_279 H, mk_280 H, mk_281 H, mk_282 H, mk_283 H, mk_284 H, mk_285 H, mk_286 H, mk_287 H, mk_288 H, mk_289 H, mr_1 H, mr_11 H, mr_12 H, mr_13 H, mr_14 H, mr_15 H, mr_16 H, mr_17 H, mr_18 H, mr_19 H, mr_24 H, mr_25 H, g1, in_2, ix_2, in_8, ix_8, si_sw (a := 285), sw_sw, mi_sw, wk3, h8, e1, e2, g2, e3, setL_0, ↓if_neg z, if_neg z, ↓if_neg c1, if_neg c1, ↓if_pos c2, if_pos c2, s1]
      · rw [if_neg (fun q => q.elim c1 c2), D_41_20]
        simp -implicitDefEqProofs only [D_41_0, k_41_0, D_41_13, k_41_13, k_41_20, D_41_99, k_41_99, D_41_105, k_41_105, D_41_111, k_41_111, R_41, v_aload_n, v_iload_n, g_bipush, g_iconst, v_callV4, aft_v, aft_n, g_if_ne, g_ireturn, g_istore_n, g_istore, v_iload, g_sipush, g_icmp_gt, v_callV1, g_getfield, sv_a, rf_s, v_iastore, wrI_0, v_callV3, v_iaload, inI_0, v_callS3, g_isub, g_imul, g_icmp_eq, g_icmp_lt, g_goto, v_iinc, entL, getL, setL, kL_i, kL_r, isI_s, isR_s, isJ_s, gV_s, iV_i, cs0, cs1, cs2, cs3, cs4, dn_nil, kd_si, kd_sl, kd_sw, mr_si, mr_sl, mr_sw, ml_si, ml_sw, mi_sl, mk_277 H, mk_278 H, mk_279 H, mk_280 H, mk_281 H, mk_282 H, mk_283 H, mk_284 H, mk_285 H, mk_286 H, mk_287 H, mk_288 H, mk_289 H, mr_1 H, mr_11 H, mr_12 H, mr_13 H, mr_14 H, mr_15 H, mr_16 H, mr_17 H, mr_18 H, mr_19 H, mr_24 H, mr_25 H, g1, in_2, ix_2, in_8, ix_8, si_sw (a := 285), sw_sw, mi_sw, wk3, h8, e1, e2, g2, e3, setL_0, ↓if_neg z, if_neg z, ↓if_neg c1, if_neg c1, ↓if_neg c2, if_neg c2, s1]) (by
    intro a tl h' hK
    have z : (1000 : Int32) < Int32.ofNat (10 * 101) := by decide
    rw [D_41_20]
    simp -implicitDefEqProofs only [D_41_0, k_41_0, D_41_13, k_41_13, k_41_20, D_41_99, k_41_99, D_41_105, k_41_105, D_41_111, k_41_111, R_41, v_aload_n, v_iload_n, g_bipush, g_iconst, v_callV4, aft_v, aft_n, g_if_ne, g_ireturn, g_istore_n, g_istore, v_iload, g_sipush, g_icmp_gt, v_callV1, g_getfield, sv_a, rf_s, v_iastore, wrI_0, v_callV3, v_iaload, inI_0, v_callS3, g_isub, g_imul, g_icmp_eq, g_icmp_lt, g_goto, v_iinc, entL, getL, setL, kL_i, kL_r, isI_s, isR_s, isJ_s, gV_s, iV_i, cs0, cs1, cs2, cs3, cs4, dn_nil, kd_si, kd_sl, kd_sw, mr_si, mr_sl, mr_sw, ml_si, ml_sw, mi_sl, ↓if_pos z, if_pos z, retX_int]) 101 0 (-1, 0) [] ((h.si 277 0 0).sw 285 (h.mi 285)) (by omega) (by omega) ⟨_, rfl⟩
  have e0 := sw_id (h := h.si 277 0 0) (a := 285)
  rw [mi_sa k285] at e0
  rw [e0] at e
  exact ⟨Q, e⟩
