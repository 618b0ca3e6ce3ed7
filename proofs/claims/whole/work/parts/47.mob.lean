-- ===== the model's cells =====
def MO (h : Mm) : Prop := h.kd 277 = some (.inl 8) ∧ h.kd 278 = some (.inr (.int, 1500)) ∧ h.kd 279 = some (.inr (.int, 26)) ∧ h.kd 280 = some (.inr (.int, 26)) ∧ h.kd 281 = some (.inr (.long, 4)) ∧ h.kd 282 = some (.inr (.long, 4)) ∧ h.kd 283 = some (.inr (.int, 1168)) ∧ h.kd 284 = some (.inr (.int, 1168)) ∧ h.kd 285 = some (.inr (.int, 1168)) ∧ h.kd 286 = some (.inr (.int, 9344)) ∧ h.kd 287 = some (.inr (.int, 1168)) ∧ h.kd 288 = some (.inr (.int, 12)) ∧ h.kd 289 = some (.inr (.int, 300)) ∧ h.mr 277 1 = some 278 ∧ h.mr 277 11 = some 279 ∧ h.mr 277 12 = some 280 ∧ h.mr 277 13 = some 281 ∧ h.mr 277 14 = some 282 ∧ h.mr 277 15 = some 283 ∧ h.mr 277 16 = some 284 ∧ h.mr 277 17 = some 285 ∧ h.mr 277 18 = some 286 ∧ h.mr 277 19 = some 287 ∧ h.mr 277 24 = some 288 ∧ h.mr 277 25 = some 289
theorem mk_277 {h : Mm} (H : MO h) : h.kd 277 = some (.inl 8) := H.1
theorem mk_278 {h : Mm} (H : MO h) : h.kd 278 = some (.inr (.int, 1500)) := H.2.1
theorem mk_279 {h : Mm} (H : MO h) : h.kd 279 = some (.inr (.int, 26)) := H.2.2.1
theorem mk_280 {h : Mm} (H : MO h) : h.kd 280 = some (.inr (.int, 26)) := H.2.2.2.1
theorem mk_281 {h : Mm} (H : MO h) : h.kd 281 = some (.inr (.long, 4)) := H.2.2.2.2.1
theorem mk_282 {h : Mm} (H : MO h) : h.kd 282 = some (.inr (.long, 4)) := H.2.2.2.2.2.1
theorem mk_283 {h : Mm} (H : MO h) : h.kd 283 = some (.inr (.int, 1168)) := H.2.2.2.2.2.2.1
theorem mk_284 {h : Mm} (H : MO h) : h.kd 284 = some (.inr (.int, 1168)) := H.2.2.2.2.2.2.2.1
theorem mk_285 {h : Mm} (H : MO h) : h.kd 285 = some (.inr (.int, 1168)) := H.2.2.2.2.2.2.2.2.1
theorem mk_286 {h : Mm} (H : MO h) : h.kd 286 = some (.inr (.int, 9344)) := H.2.2.2.2.2.2.2.2.2.1
theorem mk_287 {h : Mm} (H : MO h) : h.kd 287 = some (.inr (.int, 1168)) := H.2.2.2.2.2.2.2.2.2.2.1
theorem mk_288 {h : Mm} (H : MO h) : h.kd 288 = some (.inr (.int, 12)) := H.2.2.2.2.2.2.2.2.2.2.2.1
theorem mk_289 {h : Mm} (H : MO h) : h.kd 289 = some (.inr (.int, 300)) := H.2.2.2.2.2.2.2.2.2.2.2.2.1
theorem mr_1 {h : Mm} (H : MO h) : h.mr 277 1 = some 278 := H.2.2.2.2.2.2.2.2.2.2.2.2.2.1
theorem mr_11 {h : Mm} (H : MO h) : h.mr 277 11 = some 279 := H.2.2.2.2.2.2.2.2.2.2.2.2.2.2.1
theorem mr_12 {h : Mm} (H : MO h) : h.mr 277 12 = some 280 := H.2.2.2.2.2.2.2.2.2.2.2.2.2.2.2.1
theorem mr_13 {h : Mm} (H : MO h) : h.mr 277 13 = some 281 := H.2.2.2.2.2.2.2.2.2.2.2.2.2.2.2.2.1
theorem mr_14 {h : Mm} (H : MO h) : h.mr 277 14 = some 282 := H.2.2.2.2.2.2.2.2.2.2.2.2.2.2.2.2.2.1
theorem mr_15 {h : Mm} (H : MO h) : h.mr 277 15 = some 283 := H.2.2.2.2.2.2.2.2.2.2.2.2.2.2.2.2.2.2.1
theorem mr_16 {h : Mm} (H : MO h) : h.mr 277 16 = some 284 := H.2.2.2.2.2.2.2.2.2.2.2.2.2.2.2.2.2.2.2.1
theorem mr_17 {h : Mm} (H : MO h) : h.mr 277 17 = some 285 := H.2.2.2.2.2.2.2.2.2.2.2.2.2.2.2.2.2.2.2.2.1
theorem mr_18 {h : Mm} (H : MO h) : h.mr 277 18 = some 286 := H.2.2.2.2.2.2.2.2.2.2.2.2.2.2.2.2.2.2.2.2.2.1
theorem mr_19 {h : Mm} (H : MO h) : h.mr 277 19 = some 287 := H.2.2.2.2.2.2.2.2.2.2.2.2.2.2.2.2.2.2.2.2.2.2.1
theorem mr_24 {h : Mm} (H : MO h) : h.mr 277 24 = some 288 := H.2.2.2.2.2.2.2.2.2.2.2.2.2.2.2.2.2.2.2.2.2.2.2.1
theorem mr_25 {h : Mm} (H : MO h) : h.mr 277 25 = some 289 := H.2.2.2.2.2.2.2.2.2.2.2.2.2.2.2.2.2.2.2.2.2.2.2.2
theorem MO_si {h : Mm} {a k : Nat} {v : Int32} (H : MO h) : MO (h.si a k v) := H
theorem MO_sl {h : Mm} {a k : Nat} {v : Int64} (H : MO h) : MO (h.sl a k v) := H
theorem MO_sw {h : Mm} {a : Nat} {f : Nat → Int32} (H : MO h) : MO (h.sw a f) := H
theorem ix_0 : (0 : Int32).toNatClampNeg = 0 := by decide
theorem ix_1 : (1 : Int32).toNatClampNeg = 1 := by decide
theorem ix_2 : (2 : Int32).toNatClampNeg = 2 := by decide
theorem ix_3 : (3 : Int32).toNatClampNeg = 3 := by decide
theorem ix_4 : (4 : Int32).toNatClampNeg = 4 := by decide
theorem ix_5 : (5 : Int32).toNatClampNeg = 5 := by decide
theorem ix_6 : (6 : Int32).toNatClampNeg = 6 := by decide
theorem ix_7 : (7 : Int32).toNatClampNeg = 7 := by decide
theorem ix_8 : (8 : Int32).toNatClampNeg = 8 := by decide
theorem ix_9 : (9 : Int32).toNatClampNeg = 9 := by decide
theorem ix_10 : (10 : Int32).toNatClampNeg = 10 := by decide
theorem ix_11 : (11 : Int32).toNatClampNeg = 11 := by decide
theorem ix_12 : (12 : Int32).toNatClampNeg = 12 := by decide
theorem ix_13 : (13 : Int32).toNatClampNeg = 13 := by decide
theorem ix_14 : (14 : Int32).toNatClampNeg = 14 := by decide
theorem ix_15 : (15 : Int32).toNatClampNeg = 15 := by decide
theorem ix_16 : (16 : Int32).toNatClampNeg = 16 := by decide
theorem ix_17 : (17 : Int32).toNatClampNeg = 17 := by decide
theorem ix_18 : (18 : Int32).toNatClampNeg = 18 := by decide
theorem ix_19 : (19 : Int32).toNatClampNeg = 19 := by decide
theorem ix_20 : (20 : Int32).toNatClampNeg = 20 := by decide
theorem ix_21 : (21 : Int32).toNatClampNeg = 21 := by decide
theorem ix_22 : (22 : Int32).toNatClampNeg = 22 := by decide
theorem ix_23 : (23 : Int32).toNatClampNeg = 23 := by decide
theorem ix_24 : (24 : Int32).toNatClampNeg = 24 := by decide
theorem ix_25 : (25 : Int32).toNatClampNeg = 25 := by decide
theorem ix_26 : (26 : Int32).toNatClampNeg = 26 := by decide
theorem in_0 : inb 0 1168 = true := by decide
theorem in_1 : inb 1 1168 = true := by decide
theorem in_2 : inb 2 1168 = true := by decide
theorem in_3 : inb 3 1168 = true := by decide
theorem in_4 : inb 4 1168 = true := by decide
theorem in_5 : inb 5 1168 = true := by decide
theorem in_6 : inb 6 1168 = true := by decide
theorem in_7 : inb 7 1168 = true := by decide
theorem in_8 : inb 8 1168 = true := by decide
theorem in_9 : inb 9 1168 = true := by decide
theorem ip_0 : inb 0 26 = true := by decide
theorem ip_1 : inb 1 26 = true := by decide
theorem ip_2 : inb 2 26 = true := by decide
theorem ip_3 : inb 3 26 = true := by decide
theorem ip_4 : inb 4 26 = true := by decide
theorem ip_5 : inb 5 26 = true := by decide
theorem ip_6 : inb 6 26 = true := by decide
theorem ip_7 : inb 7 26 = true := by decide
theorem ip_8 : inb 8 26 = true := by decide
theorem ip_9 : inb 9 26 = true := by decide
theorem ip_10 : inb 10 26 = true := by decide
theorem ip_11 : inb 11 26 = true := by decide
theorem ip_12 : inb 12 26 = true := by decide
theorem ip_13 : inb 13 26 = true := by decide
theorem ip_14 : inb 14 26 = true := by decide
theorem ip_15 : inb 15 26 = true := by decide
theorem ip_16 : inb 16 26 = true := by decide
theorem ip_17 : inb 17 26 = true := by decide
theorem ip_18 : inb 18 26 = true := by decide
theorem ip_19 : inb 19 26 = true := by decide
theorem ip_20 : inb 20 26 = true := by decide
theorem ip_21 : inb 21 26 = true := by decide
theorem ip_22 : inb 22 26 = true := by decide
theorem ip_23 : inb 23 26 = true := by decide
theorem ip_24 : inb 24 26 = true := by decide
theorem ip_25 : inb 25 26 = true := by decide
theorem mi_ss {h : Mm} {a k : Nat} {v : Int32} : (h.si a k v).mi a k = v := by
  show zu2 h.mi a k v a k = v
  unfold zu2 zu; rw [if_pos rfl, if_pos rfl]
theorem mi_sk {h : Mm} {a k j : Nat} {v : Int32} (hj : j ≠ k) : (h.si a k v).mi a j = h.mi a j := by
  show zu2 h.mi a k v a j = h.mi a j
  unfold zu2 zu; rw [if_pos rfl, if_neg hj]
theorem mi_sa {h : Mm} {a b k : Nat} {v : Int32} (hb : b ≠ a) : (h.si a k v).mi b = h.mi b := by
  show zu2 h.mi a k v b = h.mi b
  unfold zu2; rw [if_neg hb]
theorem inF_or (v lo hi : Int32) : inF v lo hi = 0 ∨ inF v lo hi = 1 := by
  unfold inF; split
  · exact Or.inl rfl
  · split
    · exact Or.inl rfl
    · exact Or.inr rfl
theorem inF_ne {v lo hi : Int32} (h : inF v lo hi ≠ 0) : lo ≤ v ∧ v ≤ hi := by
  unfold inF at h
  split at h
  · exact absurd rfl h
  · rename_i h1
    split at h
    · exact absurd rfl h
    · rename_i h2
      exact ⟨Int32.not_lt.mp h1, Int32.not_lt.mp h2⟩
theorem inF_nat {i : Int32} {n : Nat} (hn : n < 2147483648) (h : inF i 0 (Int32.ofNat n - 1) ≠ 0) : i.toNatClampNeg < n ∧ i = Int32.ofNat i.toNatClampNeg := by
  obtain ⟨h1, h2⟩ := inF_ne h
  rw [Int32.le_iff_toInt_le] at h1 h2
  have h0 : (0 : Int32).toInt = 0 := by decide
  rw [h0] at h1
  have hc : (i.toNatClampNeg : Int) = i.toInt := by
    rw [← Int32.toNat_toInt]; exact Int.toNat_of_nonneg h1
  have hn0 : n ≠ 0 := by
    intro e; subst e
    have : (Int32.ofNat 0 - 1).toInt = -1 := by decide
    rw [this] at h2; omega
  obtain ⟨m, rfl⟩ := Nat.exists_eq_succ_of_ne_zero hn0
  have e1 : Int32.ofNat (m + 1) - 1 = Int32.ofNat m := by
    rw [← i32_add]; exact Int32.add_sub_cancel _ _
  rw [e1, i32_toInt (by omega)] at h2
  refine ⟨by omega, ?_⟩
  rw [← Int32.toInt_inj, i32_toInt (by omega)]
  exact hc.symm
theorem R_138 : PG.2.1 138 = (some .boolean) := rfl
def mayF (g t : Int32) : Int32 := if g = 0 then 1 else if t = 0 then 2 else 0
theorem m_138 {t : Int32} {h : Mm} (H : MO h) : dM PG 138 [.ref 277, .int t] h = some (.inl (some (.int (if mayF (h.mi 277 21) t = 0 then 1 else 0))), h.si 277 0 (mayF (h.mi 277 21) t)) := by
  rw [dM_of (Nat.le_of_ble_eq_true rfl)]
  by_cases a : h.mi 277 21 = 0
  · have e : mayF (h.mi 277 21) t = 1 := if_pos a
    rw [e]
    have z : ¬ (1 : Int32) = 0 := by decide
    simp -implicitDefEqProofs only [D_138_0, k_138_0, D_138_21, k_138_21, D_138_35, k_138_35, D_138_36, k_138_36, R_138, v_aload_n, g_getfield, sv_z, rf_s, g_if_ne, g_iconst, g_goto, g_put_i, sv_i, g_ireturn, entL, getL, setL, kL_i, kL_r, isI_s, isR_s, isJ_s, gV_s, iV_i, cs0, cs1, cs2, cs3, cs4, dn_nil, kd_si, kd_sl, kd_sw, mr_si, mr_sl, mr_sw, ml_si, ml_sw, mi_sl, mk_277 H, a, if_true, if_neg z, rX_0, mi_ss]
  · by_cases b : t = 0
    · have e : mayF (h.mi 277 21) t = 2 := by unfold mayF; rw [if_neg a, if_pos b]
      rw [e]
      have z : ¬ (2 : Int32) = 0 := by decide
      simp -implicitDefEqProofs only [D_138_0, k_138_0, D_138_12, k_138_12, D_138_20, k_138_20, D_138_21, k_138_21, D_138_35, k_138_35, D_138_36, k_138_36, R_138, v_aload_n, g_getfield, sv_z, rf_s, g_if_ne, g_iconst, g_goto, v_iload_n, g_if_eq, g_put_i, sv_i, g_ireturn, entL, getL, setL, kL_i, kL_r, isI_s, isR_s, isJ_s, gV_s, iV_i, cs0, cs1, cs2, cs3, cs4, dn_nil, kd_si, kd_sl, kd_sw, mr_si, mr_sl, mr_sw, ml_si, ml_sw, mi_sl, mk_277 H, if_neg a, b, if_true, if_neg z, rX_0, mi_ss]
    · have e : mayF (h.mi 277 21) t = 0 := by unfold mayF; rw [if_neg a, if_neg b]
      rw [e]
      simp -implicitDefEqProofs only [D_138_0, k_138_0, D_138_12, k_138_12, D_138_20, k_138_20, D_138_21, k_138_21, D_138_35, k_138_35, D_138_36, k_138_36, R_138, v_aload_n, g_getfield, sv_z, rf_s, g_if_ne, g_iconst, g_goto, v_iload_n, g_if_eq, g_put_i, sv_i, g_ireturn, entL, getL, setL, kL_i, kL_r, isI_s, isR_s, isJ_s, gV_s, iV_i, cs0, cs1, cs2, cs3, cs4, dn_nil, kd_si, kd_sl, kd_sw, mr_si, mr_sl, mr_sw, ml_si, ml_sw, mi_sl, mk_277 H, if_neg a, if_neg b, if_true, rX_1, mi_ss]
theorem R_154 : PG.2.1 154 = (some .boolean) := rfl
theorem rX_f {v lo hi : Int32} {h : Mm} : retX (some .boolean) (inF v lo hi) h = some (.inl (some (.int (inF v lo hi))), h) := by
  rcases inF_or v lo hi with e | e <;> rw [e] <;> rfl
theorem m_154 {i : Int32} {h : Mm} (H : MO h) : dM PG 154 [.ref 277, .int i] h = some (.inl (some (.int (inF i 0 (h.mi 279 7 - 1)))), h) := by
  rw [dM_of (Nat.le_of_ble_eq_true rfl)]
  simp -implicitDefEqProofs only [D_154_0, k_154_0, R_154, v_iload_n, g_iconst, v_aload_n, g_getfield, sv_a, rf_s, g_bipush, v_iaload, inI_0, g_isub, v_callS3, aft_v, aft_n, g_ireturn, entL, getL, setL, kL_i, kL_r, isI_s, isR_s, isJ_s, gV_s, iV_i, cs0, cs1, cs2, cs3, cs4, dn_nil, kd_si, kd_sl, kd_sw, mr_si, mr_sl, mr_sw, ml_si, ml_sw, mi_sl, mk_277 H, mr_11 H, mk_279 H, ip_7, ix_7, m_136, rX_f]
theorem R_148 : PG.2.1 148 = (some .boolean) := rfl
theorem m_148 {i : Int32} {h : Mm} (H : MO h) : dM PG 148 [.ref 277, .int i] h = some (.inl (some (.int (inF i 0 (h.mi 283 8 - 1)))), h) := by
  rw [dM_of (Nat.le_of_ble_eq_true rfl)]
  simp -implicitDefEqProofs only [D_148_0, k_148_0, R_148, v_iload_n, g_iconst, v_aload_n, g_getfield, sv_a, rf_s, g_bipush, v_iaload, inI_0, g_isub, v_callS3, aft_v, aft_n, g_ireturn, entL, getL, setL, kL_i, kL_r, isI_s, isR_s, isJ_s, gV_s, iV_i, cs0, cs1, cs2, cs3, cs4, dn_nil, kd_si, kd_sl, kd_sw, mr_si, mr_sl, mr_sw, ml_si, ml_sw, mi_sl, mk_277 H, mr_15 H, mk_283 H, in_8, ix_8, m_136, rX_f]
theorem m_218m {i : Int32} {h : Mm} (H : MO h) : dM PG 218 [.ref 277, .int i] h = some (.inl (some (.int (inF i 0 (h.mi 283 9 - 1)))), h) := m_218 (mk_277 H) (mr_15 H) (mk_283 H)
theorem R_201 : PG.2.1 201 = (some .int) := rfl
theorem m_201 {c : Nat} (hc : c < 1168) {h : Mm} (H : MO h) : dM PG 201 [.ref 277, .int (Int32.ofNat c)] h = some (.inl (some (.int (if h.mi 277 21 = 0 then 0 else h.mi 283 c))), h.si 277 0 0) := by
  rw [dM_of (Nat.le_of_ble_eq_true rfl)]
  have b1 : inb (Int32.ofNat c) 1168 = true := inb_nat hc (by decide)
  have n1 : (Int32.ofNat c).toNatClampNeg = c := i32_nat (by omega)
  have k1 : (21 : Nat) ≠ 0 := by decide
  have k2 : (283 : Nat) ≠ 277 := by decide
  by_cases a : h.mi 277 21 = 0
  · simp -implicitDefEqProofs only [D_201_0, k_201_0, D_201_21, k_201_21, D_201_22, k_201_22, R_201, v_aload_n, g_iconst, g_put_i, g_getfield, sv_z, rf_s, g_if_eq, sv_a, v_iload_n, v_iaload, inI_0, g_goto, g_ireturn, entL, getL, setL, kL_i, kL_r, isI_s, isR_s, isJ_s, gV_s, iV_i, cs0, cs1, cs2, cs3, cs4, dn_nil, kd_si, kd_sl, kd_sw, mr_si, mr_sl, mr_sw, ml_si, ml_sw, mi_sl, mk_277 H, mi_sk k1, a, if_true, retX_int]
  · simp -implicitDefEqProofs only [D_201_0, k_201_0, D_201_21, k_201_21, D_201_22, k_201_22, R_201, v_aload_n, g_iconst, g_put_i, g_getfield, sv_z, rf_s, g_if_eq, sv_a, v_iload_n, v_iaload, inI_0, g_goto, g_ireturn, entL, getL, setL, kL_i, kL_r, isI_s, isR_s, isJ_s, gV_s, iV_i, cs0, cs1, cs2, cs3, cs4, dn_nil, kd_si, kd_sl, kd_sw, mr_si, mr_sl, mr_sw, ml_si, ml_sw, mi_sl, mk_277 H, mi_sk k1, if_neg a, mr_15 H, mk_283 H, b1, n1, mi_sa k2, retX_int]
theorem R_222 : PG.2.1 222 = (some .int) := rfl
theorem m_222 {i : Int32} {r n : Nat} (hn : n ≤ 80) (hr : r + 80 ≤ 1168) {h : Mm} (H : MO h) (hm : h.mi 283 9 = Int32.ofNat n) : dM PG 222 [.ref 277, .int i, .int (Int32.ofNat r)] h = some (.inl (some (.int (if mayF (h.mi 277 21) (inF i 0 (h.mi 283 9 - 1)) = 0 then h.mi 283 (r + i.toNatClampNeg) else 0))), h.si 277 0 (mayF (h.mi 277 21) (inF i 0 (h.mi 283 9 - 1)))) := by
  rw [dM_of (Nat.le_of_ble_eq_true rfl)]
  have k2 : (283 : Nat) ≠ 277 := by decide
  by_cases a : mayF (h.mi 277 21) (inF i 0 (h.mi 283 9 - 1)) = 0
  · have z : ¬ (1 : Int32) = 0 := by decide
    have hi : inF i 0 (h.mi 283 9 - 1) ≠ 0 := by
      intro e; unfold mayF at a; rw [e] at a
      split at a
      · exact absurd a (by decide)
      · exact absurd a (by decide)
    rw [hm] at hi
    obtain ⟨q1, q2⟩ := inF_nat (by omega) hi
    have e2 : Int32.ofNat r + i = Int32.ofNat (r + i.toNatClampNeg) := by
      rw [← i32_add, ← q2]
    have b1 : inb (Int32.ofNat (r + i.toNatClampNeg)) 1168 = true := inb_nat (by omega) (by decide)
    have n1 : (Int32.ofNat (r + i.toNatClampNeg)).toNatClampNeg = r + i.toNatClampNeg := i32_nat (by omega)
    simp -implicitDefEqProofs only [D_222_0, k_222_0, D_222_23, k_222_23, D_222_24, k_222_24, R_222, v_aload_n, v_iload_n, v_callV2, aft_v, aft_n, g_if_eq, g_getfield, sv_a, rf_s, g_iadd, v_iaload, inI_0, g_goto, g_iconst, g_ireturn, entL, getL, setL, kL_i, kL_r, isI_s, isR_s, isJ_s, gV_s, iV_i, cs0, cs1, cs2, cs3, cs4, dn_nil, kd_si, kd_sl, kd_sw, mr_si, mr_sl, mr_sw, ml_si, ml_sw, mi_sl, mk_277 H, m_218m H, m_138 H, a, if_true, if_neg z, mr_15 H, mk_283 H, e2, b1, n1, mi_sa k2, retX_int]
  · simp -implicitDefEqProofs only [D_222_0, k_222_0, D_222_23, k_222_23, D_222_24, k_222_24, R_222, v_aload_n, v_iload_n, v_callV2, aft_v, aft_n, g_if_eq, g_getfield, sv_a, rf_s, g_iadd, v_iaload, inI_0, g_goto, g_iconst, g_ireturn, entL, getL, setL, kL_i, kL_r, isI_s, isR_s, isJ_s, gV_s, iV_i, cs0, cs1, cs2, cs3, cs4, dn_nil, kd_si, kd_sl, kd_sw, mr_si, mr_sl, mr_sw, ml_si, ml_sw, mi_sl, mk_277 H, m_218m H, m_138 H, if_neg a, if_true, retX_int]
theorem R_210 : PG.2.1 210 = (some .int) := rfl
theorem m_210 {i : Int32} {r n : Nat} (hn : n ≤ 80) (hr : r + 80 ≤ 1168) {h : Mm} (H : MO h) (hm : h.mi 283 8 = Int32.ofNat n) : dM PG 210 [.ref 277, .int i, .int (Int32.ofNat r)] h = some (.inl (some (.int (if mayF (h.mi 277 21) (inF i 0 (h.mi 283 8 - 1)) = 0 then h.mi 283 (r + i.toNatClampNeg) else 0))), h.si 277 0 (mayF (h.mi 277 21) (inF i 0 (h.mi 283 8 - 1)))) := by
  rw [dM_of (Nat.le_of_ble_eq_true rfl)]
  have k2 : (283 : Nat) ≠ 277 := by decide
  by_cases a : mayF (h.mi 277 21) (inF i 0 (h.mi 283 8 - 1)) = 0
  · have z : ¬ (1 : Int32) = 0 := by decide
    have hi : inF i 0 (h.mi 283 8 - 1) ≠ 0 := by
      intro e; unfold mayF at a; rw [e] at a
      split at a
      · exact absurd a (by decide)
      · exact absurd a (by decide)
    rw [hm] at hi
    obtain ⟨q1, q2⟩ := inF_nat (by omega) hi
    have e2 : Int32.ofNat r + i = Int32.ofNat (r + i.toNatClampNeg) := by
      rw [← i32_add, ← q2]
    have b1 : inb (Int32.ofNat (r + i.toNatClampNeg)) 1168 = true := inb_nat (by omega) (by decide)
    have n1 : (Int32.ofNat (r + i.toNatClampNeg)).toNatClampNeg = r + i.toNatClampNeg := i32_nat (by omega)
    simp -implicitDefEqProofs only [D_210_0, k_210_0, D_210_23, k_210_23, D_210_24, k_210_24, R_210, v_aload_n, v_iload_n, v_callV2, aft_v, aft_n, g_if_eq, g_getfield, sv_a, rf_s, g_iadd, v_iaload, inI_0, g_goto, g_iconst, g_ireturn, entL, getL, setL, kL_i, kL_r, isI_s, isR_s, isJ_s, gV_s, iV_i, cs0, cs1, cs2, cs3, cs4, dn_nil, kd_si, kd_sl, kd_sw, mr_si, mr_sl, mr_sw, ml_si, ml_sw, mi_sl, mk_277 H, m_148 H, m_138 H, a, if_true, if_neg z, mr_15 H, mk_283 H, e2, b1, n1, mi_sa k2, retX_int]
  · simp -implicitDefEqProofs only [D_210_0, k_210_0, D_210_23, k_210_23, D_210_24, k_210_24, R_210, v_aload_n, v_iload_n, v_callV2, aft_v, aft_n, g_if_eq, g_getfield, sv_a, rf_s, g_iadd, v_iaload, inI_0, g_goto, g_iconst, g_ireturn, entL, getL, setL, kL_i, kL_r, isI_s, isR_s, isJ_s, gV_s, iV_i, cs0, cs1, cs2, cs3, cs4, dn_nil, kd_si, kd_sl, kd_sw, mr_si, mr_sl, mr_sw, ml_si, ml_sw, mi_sl, mk_277 H, m_148 H, m_138 H, if_neg a, if_true, retX_int]
theorem R_196 : PG.2.1 196 = (some .int) := rfl
theorem m_196 {i : Int32} {r n : Nat} (hn : n ≤ 4) (hr : r + 4 ≤ 1168) {h : Mm} (H : MO h) (hm : h.mi 279 7 = Int32.ofNat n) : dM PG 196 [.ref 277, .int i, .int (Int32.ofNat r)] h = some (.inl (some (.int (if mayF (h.mi 277 21) (inF i 0 (h.mi 279 7 - 1)) = 0 then h.mi 283 (r + i.toNatClampNeg) else 0))), h.si 277 0 (mayF (h.mi 277 21) (inF i 0 (h.mi 279 7 - 1)))) := by
  rw [dM_of (Nat.le_of_ble_eq_true rfl)]
  have k2 : (283 : Nat) ≠ 277 := by decide
  by_cases a : mayF (h.mi 277 21) (inF i 0 (h.mi 279 7 - 1)) = 0
  · have z : ¬ (1 : Int32) = 0 := by decide
    have hi : inF i 0 (h.mi 279 7 - 1) ≠ 0 := by
      intro e; unfold mayF at a; rw [e] at a
      split at a
      · exact absurd a (by decide)
      · exact absurd a (by decide)
    rw [hm] at hi
    obtain ⟨q1, q2⟩ := inF_nat (by omega) hi
    have e2 : Int32.ofNat r + i = Int32.ofNat (r + i.toNatClampNeg) := by
      rw [← i32_add, ← q2]
    have b1 : inb (Int32.ofNat (r + i.toNatClampNeg)) 1168 = true := inb_nat (by omega) (by decide)
    have n1 : (Int32.ofNat (r + i.toNatClampNeg)).toNatClampNeg = r + i.toNatClampNeg := i32_nat (by omega)
    simp -implicitDefEqProofs only [D_196_0, k_196_0, D_196_23, k_196_23, D_196_24, k_196_24, R_196, v_aload_n, v_iload_n, v_callV2, aft_v, aft_n, g_if_eq, g_getfield, sv_a, rf_s, g_iadd, v_iaload, inI_0, g_goto, g_iconst, g_ireturn, entL, getL, setL, kL_i, kL_r, isI_s, isR_s, isJ_s, gV_s, iV_i, cs0, cs1, cs2, cs3, cs4, dn_nil, kd_si, kd_sl, kd_sw, mr_si, mr_sl, mr_sw, ml_si, ml_sw, mi_sl, mk_277 H, m_154 H, m_138 H, a, if_true, if_neg z, mr_15 H, mk_283 H, e2, b1, n1, mi_sa k2, retX_int]
  · simp -implicitDefEqProofs only [D_196_0, k_196_0, D_196_23, k_196_23, D_196_24, k_196_24, R_196, v_aload_n, v_iload_n, v_callV2, aft_v, aft_n, g_if_eq, g_getfield, sv_a, rf_s, g_iadd, v_iaload, inI_0, g_goto, g_iconst, g_ireturn, entL, getL, setL, kL_i, kL_r, isI_s, isR_s, isJ_s, gV_s, iV_i, cs0, cs1, cs2, cs3, cs4, dn_nil, kd_si, kd_sl, kd_sw, mr_si, mr_sl, mr_sw, ml_si, ml_sw, mi_sl, mk_277 H, m_154 H, m_138 H, if_neg a, if_true, retX_int]
