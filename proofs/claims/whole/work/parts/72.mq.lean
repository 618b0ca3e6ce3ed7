-- ===== the model: questions with an index =====
theorem idx {m : Nat} (hm : m < 2147483648) (i : Int32) : (∃ k, k < m ∧ i = Int32.ofNat k) ∨ (i < 0 ∨ ¬ i < Int32.ofNat m) := by
  by_cases a : i < 0
  · exact Or.inr (Or.inl a)
  · by_cases e : i < Int32.ofNat m
    · left
      have h1 : 0 ≤ i.toInt := by
        have := Int32.not_lt.mp a
        rw [Int32.le_iff_toInt_le] at this
        exact this
      have h2 : i.toInt < m := by
        rw [Int32.lt_iff_toInt_lt, i32_toInt hm] at e
        exact e
      refine ⟨i.toInt.toNat, by omega, ?_⟩
      apply Int32.toInt_inj.mp
      rw [i32_toInt (by omega)]
      omega
    · exact Or.inr (Or.inr e)
theorem i32_le1 {m : Nat} (h0 : 0 < m) : Int32.ofNat m - 1 = Int32.ofNat (m - 1) := i32_pred h0
theorem inF_y {k m : Nat} (hk : k < m) (hm : m < 2147483648) : inF (Int32.ofNat k) 0 (Int32.ofNat m - 1) = 1 := by
  unfold inF
  rw [if_neg (i32_0n (by omega)), i32_le1 (by omega), if_neg]
  rw [i32_lt (by omega) (by omega)]; omega
theorem inF_n {i : Int32} {m : Nat} (hm : m < 2147483648) (h : i < 0 ∨ ¬ i < Int32.ofNat m) : inF i 0 (Int32.ofNat m - 1) = 0 := by
  unfold inF
  by_cases a : i < 0
  · rw [if_pos a]
  · rw [if_neg a, if_pos]
    have e := h.resolve_left a
    rw [Int32.lt_iff_toInt_lt, i32_toInt hm] at e
    have a2 := Int32.not_lt.mp a
    rw [Int32.le_iff_toInt_le] at a2
    have a3 : (0 : Int32).toInt = 0 := by decide
    rw [Int32.lt_iff_toInt_lt]
    by_cases z : m = 0
    · subst z
      have : (Int32.ofNat 0 - 1).toInt = -1 := by decide
      rw [this]; omega
    · rw [i32_le1 (by omega), i32_toInt (by omega)]; omega
theorem m_138n {t : Int32} {h : Mm} (H : MO h) (hl : h.mi 277 21 = 0) : dM PG 138 [.ref 277, .int t] h = some (.inl (some (.int 0)), h.si 277 0 1) := by
  have z : mayF (h.mi 277 21) t = 1 := by unfold mayF; rw [if_pos hl]
  rw [m_138 H, z]; rfl
theorem m_138x {h : Mm} (H : MO h) (hl : ¬ h.mi 277 21 = 0) : dM PG 138 [.ref 277, .int 0] h = some (.inl (some (.int 0)), h.si 277 0 2) := by
  have z : mayF (h.mi 277 21) 0 = 2 := by unfold mayF; rw [if_neg hl]; rfl
  rw [m_138 H, z]; rfl
theorem m_138y {h : Mm} (H : MO h) (hl : ¬ h.mi 277 21 = 0) : dM PG 138 [.ref 277, .int 1] h = some (.inl (some (.int 1)), h.si 277 0 0) := by
  have z : mayF (h.mi 277 21) 1 = 0 := by unfold mayF; rw [if_neg hl]; rfl
  rw [m_138 H, z]; rfl
theorem k283 : (283 : Nat) ≠ 277 := by decide
theorem k279 : (279 : Nat) ≠ 277 := by decide
theorem k285 : (285 : Nat) ≠ 277 := by decide
theorem R_115 : PG.2.1 115 = (some .int) := rfl
theorem m_115n {i j : Int32} {h : Mm} (H : MO h) (hl : h.mi 277 21 = 0) : dM PG 115 [.ref 277, .int i, .int j] h = some (.inl (some (.int 0)), h.si 277 0 1) := by
  rw [dM_of (Nat.le_of_ble_eq_true rfl)]
  rcases inF_or i 0 (h.mi 283 9 - 1) with c | c
  · simp -implicitDefEqProofs only [D_115_0, k_115_0, D_115_21, k_115_21, D_115_22, k_115_22, D_115_45, k_115_45, D_115_46, k_115_46, R_115, v_aload_n, v_iload_n, v_callV2, aft_v, aft_n, g_if_eq, g_iconst, g_goto, g_getfield, sv_a, rf_s, g_sipush, g_imul, g_iadd, v_iaload, inI_0, g_ireturn, entL, getL, setL, kL_i, kL_r, isI_s, isR_s, isJ_s, gV_s, iV_i, cs0, cs1, cs2, cs3, cs4, dn_nil, kd_si, kd_sl, kd_sw, mr_si, mr_sl, mr_sw, ml_si, ml_sw, mi_sl, mk_277 H, mk_278 H, mk_279 H, mk_280 H, mk_281 H, mk_282 H, mk_283 H, mk_284 H, mk_285 H, mk_286 H, mk_287 H, mk_288 H, mk_289 H, mr_1 H, mr_11 H, mr_12 H, mr_13 H, mr_14 H, mr_15 H, mr_16 H, mr_17 H, mr_18 H, mr_19 H, mr_24 H, mr_25 H, m_218m H, c, m_138n H hl, ↓if_true, if_true, retX_int]
  · rcases inF_or j 0 (h.mi 279 7 - 1) with c2 | c2
    · simp -implicitDefEqProofs only [D_115_0, k_115_0, D_115_21, k_115_21, D_115_22, k_115_22, D_115_45, k_115_45, D_115_46, k_115_46, R_115, v_aload_n, v_iload_n, v_callV2, aft_v, aft_n, g_if_eq, g_iconst, g_goto, g_getfield, sv_a, rf_s, g_sipush, g_imul, g_iadd, v_iaload, inI_0, g_ireturn, entL, getL, setL, kL_i, kL_r, isI_s, isR_s, isJ_s, gV_s, iV_i, cs0, cs1, cs2, cs3, cs4, dn_nil, kd_si, kd_sl, kd_sw, mr_si, mr_sl, mr_sw, ml_si, ml_sw, mi_sl, mk_277 H, mk_278 H, mk_279 H, mk_280 H, mk_281 H, mk_282 H, mk_283 H, mk_284 H, mk_285 H, mk_286 H, mk_287 H, mk_288 H, mk_289 H, mr_1 H, mr_11 H, mr_12 H, mr_13 H, mr_14 H, mr_15 H, mr_16 H, mr_17 H, mr_18 H, mr_19 H, mr_24 H, mr_25 H, m_218m H, m_154 H, c, c2, m_138n H hl, ↓if_neg z_1, if_neg z_1, ↓if_true, if_true, retX_int]
    · simp -implicitDefEqProofs only [D_115_0, k_115_0, D_115_21, k_115_21, D_115_22, k_115_22, D_115_45, k_115_45, D_115_46, k_115_46, R_115, v_aload_n, v_iload_n, v_callV2, aft_v, aft_n, g_if_eq, g_iconst, g_goto, g_getfield, sv_a, rf_s, g_sipush, g_imul, g_iadd, v_iaload, inI_0, g_ireturn, entL, getL, setL, kL_i, kL_r, isI_s, isR_s, isJ_s, gV_s, iV_i, cs0, cs1, cs2, cs3, cs4, dn_nil, kd_si, kd_sl, kd_sw, mr_si, mr_sl, mr_sw, ml_si, ml_sw, mi_sl, mk_277 H, mk_278 H, mk_279 H, mk_280 H, mk_281 H, mk_282 H, mk_283 H, mk_284 H, mk_285 H, mk_286 H, mk_287 H, mk_288 H, mk_289 H, mr_1 H, mr_11 H, mr_12 H, mr_13 H, mr_14 H, mr_15 H, mr_16 H, mr_17 H, mr_18 H, mr_19 H, mr_24 H, mr_25 H, m_218m H, m_154 H, c, c2, m_138n H hl, ↓if_neg z_1, if_neg z_1, ↓if_true, if_true, retX_int]
theorem m_115x {i j : Int32} {h : Mm} (H : MO h) (hl : ¬ h.mi 277 21 = 0) (c : inF i 0 (h.mi 283 9 - 1) = 0) : dM PG 115 [.ref 277, .int i, .int j] h = some (.inl (some (.int 0)), h.si 277 0 2) := by
  rw [dM_of (Nat.le_of_ble_eq_true rfl)]
  simp -implicitDefEqProofs only [D_115_0, k_115_0, D_115_21, k_115_21, D_115_22, k_115_22, D_115_45, k_115_45, D_115_46, k_115_46, R_115, v_aload_n, v_iload_n, v_callV2, aft_v, aft_n, g_if_eq, g_iconst, g_goto, g_getfield, sv_a, rf_s, g_sipush, g_imul, g_iadd, v_iaload, inI_0, g_ireturn, entL, getL, setL, kL_i, kL_r, isI_s, isR_s, isJ_s, gV_s, iV_i, cs0, cs1, cs2, cs3, cs4, dn_nil, kd_si, kd_sl, kd_sw, mr_si, mr_sl, mr_sw, ml_si, ml_sw, mi_sl, mk_277 H, mk_278 H, mk_279 H, mk_280 H, mk_281 H, mk_282 H, mk_283 H, mk_284 H, mk_285 H, mk_286 H, mk_287 H, mk_288 H, mk_289 H, mr_1 H, mr_11 H, mr_12 H, mr_13 H, mr_14 H, mr_15 H, mr_16 H, mr_17 H, mr_18 H, mr_19 H, mr_24 H, mr_25 H, m_218m H, c, m_138x H hl, ↓if_true, if_true, retX_int]
theorem m_115z {i j : Int32} {h : Mm} (H : MO h) (hl : ¬ h.mi 277 21 = 0) (c : inF i 0 (h.mi 283 9 - 1) = 1) (c2 : inF j 0 (h.mi 279 7 - 1) = 0) : dM PG 115 [.ref 277, .int i, .int j] h = some (.inl (some (.int 0)), h.si 277 0 2) := by
  rw [dM_of (Nat.le_of_ble_eq_true rfl)]
  simp -implicitDefEqProofs only [D_115_0, k_115_0, D_115_21, k_115_21, D_115_22, k_115_22, D_115_45, k_115_45, D_115_46, k_115_46, R_115, v_aload_n, v_iload_n, v_callV2, aft_v, aft_n, g_if_eq, g_iconst, g_goto, g_getfield, sv_a, rf_s, g_sipush, g_imul, g_iadd, v_iaload, inI_0, g_ireturn, entL, getL, setL, kL_i, kL_r, isI_s, isR_s, isJ_s, gV_s, iV_i, cs0, cs1, cs2, cs3, cs4, dn_nil, kd_si, kd_sl, kd_sw, mr_si, mr_sl, mr_sw, ml_si, ml_sw, mi_sl, mk_277 H, mk_278 H, mk_279 H, mk_280 H, mk_281 H, mk_282 H, mk_283 H, mk_284 H, mk_285 H, mk_286 H, mk_287 H, mk_288 H, mk_289 H, mr_1 H, mr_11 H, mr_12 H, mr_13 H, mr_14 H, mr_15 H, mr_16 H, mr_17 H, mr_18 H, mr_19 H, mr_24 H, mr_25 H, m_218m H, m_154 H, c, c2, m_138x H hl, ↓if_neg z_1, if_neg z_1, ↓if_true, if_true, retX_int]
theorem m_115y {i j : Nat} (hi : i < 80) (hj : j < 4) {h : Mm} (H : MO h) (hl : ¬ h.mi 277 21 = 0) (c : inF (Int32.ofNat i) 0 (h.mi 283 9 - 1) = 1) (c2 : inF (Int32.ofNat j) 0 (h.mi 279 7 - 1) = 1) : dM PG 115 [.ref 277, .int (Int32.ofNat i), .int (Int32.ofNat j)] h = some (.inl (some (.int (h.mi 283 (368 + 4 * i + j)))), h.si 277 0 0) := by
  rw [dM_of (Nat.le_of_ble_eq_true rfl)]
  have b_1 : inb (Int32.ofNat (368 + 4 * i + j)) 1168 = true := inb_nat (by omega) (by decide)
  have n_1 : (Int32.ofNat (368 + 4 * i + j)).toNatClampNeg = 368 + 4 * i + j := i32_nat (by omega)
  simp -implicitDefEqProofs only [D_115_0, k_115_0, D_115_21, k_115_21, D_115_22, k_115_22, D_115_45, k_115_45, D_115_46, k_115_46, R_115, v_aload_n, v_iload_n, v_callV2, aft_v, aft_n, g_if_eq, g_iconst, g_goto, g_getfield, sv_a, rf_s, g_sipush, g_imul, g_iadd, v_iaload, inI_0, g_ireturn, entL, getL, setL, kL_i, kL_r, isI_s, isR_s, isJ_s, gV_s, iV_i, cs0, cs1, cs2, cs3, cs4, dn_nil, kd_si, kd_sl, kd_sw, mr_si, mr_sl, mr_sw, ml_si, ml_sw, mi_sl, mk_277 H, mk_278 H, mk_279 H, mk_280 H, mk_281 H, mk_282 H, mk_283 H, mk_284 H, mk_285 H, mk_286 H, mk_287 H, mk_288 H, mk_289 H, mr_1 H, mr_11 H, mr_12 H, mr_13 H, mr_14 H, mr_15 H, mr_16 H, mr_17 H, mr_18 H, mr_19 H, mr_24 H, mr_25 H, m_218m H, m_154 H, c, c2, m_138y H hl, ↓if_neg z_1, if_neg z_1, lm_4, la_368, i32_add, b_1, n_1, mi_sa k283, retX_int]
theorem R_109 : PG.2.1 109 = (some .int) := rfl
theorem m_109n {i : Int32} {h : Mm} (H : MO h) (hl : h.mi 277 21 = 0) : dM PG 109 [.ref 277, .int i] h = some (.inl (some (.int 0)), h.si 277 0 1) := by
  rw [dM_of (Nat.le_of_ble_eq_true rfl)]
  simp -implicitDefEqProofs only [D_109_0, k_109_0, D_109_14, k_109_14, D_109_40, k_109_40, D_109_41, k_109_41, R_109, v_aload_n, v_iload_n, v_callV2, aft_v, aft_n, g_if_ne, g_iconst, g_ireturn, g_getfield, sv_a, rf_s, g_bipush, g_iadd, v_iaload, inI_0, g_icmp_lt, g_sipush, g_goto, entL, getL, setL, kL_i, kL_r, isI_s, isR_s, isJ_s, gV_s, iV_i, cs0, cs1, cs2, cs3, cs4, dn_nil, kd_si, kd_sl, kd_sw, mr_si, mr_sl, mr_sw, ml_si, ml_sw, mi_sl, mk_277 H, mk_278 H, mk_279 H, mk_280 H, mk_281 H, mk_282 H, mk_283 H, mk_284 H, mk_285 H, mk_286 H, mk_287 H, mk_288 H, mk_289 H, mr_1 H, mr_11 H, mr_12 H, mr_13 H, mr_14 H, mr_15 H, mr_16 H, mr_17 H, mr_18 H, mr_19 H, mr_24 H, mr_25 H, m_218m H, m_138n H hl, ↓if_true, if_true, retX_int]
theorem m_109x {i : Int32} {h : Mm} (H : MO h) (hl : ¬ h.mi 277 21 = 0) (c : inF i 0 (h.mi 283 9 - 1) = 0) : dM PG 109 [.ref 277, .int i] h = some (.inl (some (.int 0)), h.si 277 0 2) := by
  rw [dM_of (Nat.le_of_ble_eq_true rfl)]
  simp -implicitDefEqProofs only [D_109_0, k_109_0, D_109_14, k_109_14, D_109_40, k_109_40, D_109_41, k_109_41, R_109, v_aload_n, v_iload_n, v_callV2, aft_v, aft_n, g_if_ne, g_iconst, g_ireturn, g_getfield, sv_a, rf_s, g_bipush, g_iadd, v_iaload, inI_0, g_icmp_lt, g_sipush, g_goto, entL, getL, setL, kL_i, kL_r, isI_s, isR_s, isJ_s, gV_s, iV_i, cs0, cs1, cs2, cs3, cs4, dn_nil, kd_si, kd_sl, kd_sw, mr_si, mr_sl, mr_sw, ml_si, ml_sw, mi_sl, mk_277 H, mk_278 H, mk_279 H, mk_280 H, mk_281 H, mk_282 H, mk_283 H, mk_284 H, mk_285 H, mk_286 H, mk_287 H, mk_288 H, mk_289 H, mr_1 H, mr_11 H, mr_12 H, mr_13 H, mr_14 H, mr_15 H, mr_16 H, mr_17 H, mr_18 H, mr_19 H, mr_24 H, mr_25 H, m_218m H, c, m_138x H hl, ↓if_true, if_true, retX_int]
theorem m_109y {i : Nat} (hi : i < 80) {h : Mm} (H : MO h) (hl : ¬ h.mi 277 21 = 0) (c : inF (Int32.ofNat i) 0 (h.mi 283 9 - 1) = 1) : dM PG 109 [.ref 277, .int (Int32.ofNat i)] h = some (.inl (some (.int (if h.mi 283 (48 + i) < 4 then -1 else h.mi 283 (128 + i)))), h.si 277 0 0) := by
  rw [dM_of (Nat.le_of_ble_eq_true rfl)]
  have b_1 : inb (Int32.ofNat (48 + i)) 1168 = true := inb_nat (by omega) (by decide)
  have n_1 : (Int32.ofNat (48 + i)).toNatClampNeg = 48 + i := i32_nat (by omega)
  have b_2 : inb (Int32.ofNat (128 + i)) 1168 = true := inb_nat (by omega) (by decide)
  have n_2 : (Int32.ofNat (128 + i)).toNatClampNeg = 128 + i := i32_nat (by omega)
  by_cases d : h.mi 283 (48 + i) < 4
  · simp -implicitDefEqProofs only [D_109_0, k_109_0, D_109_14, k_109_14, D_109_40, k_109_40, D_109_41, k_109_41, R_109, v_aload_n, v_iload_n, v_callV2, aft_v, aft_n, g_if_ne, g_iconst, g_ireturn, g_getfield, sv_a, rf_s, g_bipush, g_iadd, v_iaload, inI_0, g_icmp_lt, g_sipush, g_goto, entL, getL, setL, kL_i, kL_r, isI_s, isR_s, isJ_s, gV_s, iV_i, cs0, cs1, cs2, cs3, cs4, dn_nil, kd_si, kd_sl, kd_sw, mr_si, mr_sl, mr_sw, ml_si, ml_sw, mi_sl, mk_277 H, mk_278 H, mk_279 H, mk_280 H, mk_281 H, mk_282 H, mk_283 H, mk_284 H, mk_285 H, mk_286 H, mk_287 H, mk_288 H, mk_289 H, mr_1 H, mr_11 H, mr_12 H, mr_13 H, mr_14 H, mr_15 H, mr_16 H, mr_17 H, mr_18 H, mr_19 H, mr_24 H, mr_25 H, m_218m H, c, m_138y H hl, ↓if_neg z_1, if_neg z_1, la_48, la_128, b_1, n_1, b_2, n_2, mi_sa k283, ↓if_pos d, if_pos d, retX_int]
  · simp -implicitDefEqProofs only [D_109_0, k_109_0, D_109_14, k_109_14, D_109_40, k_109_40, D_109_41, k_109_41, R_109, v_aload_n, v_iload_n, v_callV2, aft_v, aft_n, g_if_ne, g_iconst, g_ireturn, g_getfield, sv_a, rf_s, g_bipush, g_iadd, v_iaload, inI_0, g_icmp_lt, g_sipush, g_goto, entL, getL, setL, kL_i, kL_r, isI_s, isR_s, isJ_s, gV_s, iV_i, cs0, cs1, cs2, cs3, cs4, dn_nil, kd_si, kd_sl, kd_sw, mr_si, mr_sl, mr_sw, ml_si, ml_sw, mi_sl, mk_277 H, mk_278 H, mk_279 H, mk_280 H, mk_281 H, mk_282 H, mk_283 H, mk_284 H, mk_285 H, mk_286 H, mk_287 H, mk_288 H, mk_289 H, mr_1 H, mr_11 H, mr_12 H, mr_13 H, mr_14 H, mr_15 H, mr_16 H, mr_17 H, mr_18 H, mr_19 H, mr_24 H, mr_25 H, m_218m H, c, m_138y H hl, ↓if_neg z_1, if_neg z_1, la_48, la_128, b_1, n_1, b_2, n_2, mi_sa k283, ↓if_neg d, if_neg d, retX_int]
theorem R_259 : PG.2.1 259 = (some .int) := rfl
def bkS (S : Nat → Int32) (i k best : Nat) : Nat := if S (368 + 4 * i + best) < S (368 + 4 * i + k) then k else best
def bkF (S : Nat → Int32) (i nk : Nat) : Nat := fl (bkS S i) (nk - 1) 1 0
theorem m_259 {s i nk : Nat} (hi : i < 80) (hnk : nk ≤ 4) {h : Mm} (hk : h.kd s = some (.inr (.int, 1168))) : dM PG 259 [.ref s, .int (Int32.ofNat i), .int (Int32.ofNat nk)] h = some (.inl (some (.int (Int32.ofNat (bkF (h.mi s) i nk)))), h) := by
  rw [dM_of (Nat.le_of_ble_eq_true rfl)]
  simp -implicitDefEqProofs only [D_259_0, k_259_0, g_iconst, g_istore_n, g_istore, entL, getL, setL, kL_i, kL_r, isI_s, isR_s, isJ_s, gV_s, iV_i, cs0, cs1, cs2, cs3, cs4, dn_nil, kd_si, kd_sl, kd_sw, mr_si, mr_sl, mr_sw, ml_si, ml_sw, mi_sl]
  refine lp (n := 1 + (nk - 1)) (I := fun k best => 1 ≤ k ∧ best < 4) (h := fun _ => h) (f := bkS (h.mi s) i) (L := fun k best tl => some (.ref s) :: some (.int (Int32.ofNat i)) :: some (.int (Int32.ofNat nk)) :: some (.int (Int32.ofNat best)) :: some (.int (Int32.ofNat k)) :: tl) (r := fun best => some (.inl (some (.int (Int32.ofNat best))), h)) ?_ ?_ (nk - 1) 1 0 [] (by omega) ⟨by omega, by omega⟩
  · intro k best tl hk' hI
    obtain ⟨h1, hb⟩ := hI
    have hk4 : k < 4 := by omega
    have e : ¬ Int32.ofNat (nk) ≤ Int32.ofNat (k) := by rw [i32_le (by omega) (by omega)]; omega
    have s1 : Int32.ofNat (k) + 1 = Int32.ofNat (k + 1) := i32_add (b := 1)
    have b_1 : inb (Int32.ofNat (368 + 4 * i + k)) 1168 = true := inb_nat (by omega) (by decide)
    have n_1 : (Int32.ofNat (368 + 4 * i + k)).toNatClampNeg = 368 + 4 * i + k := i32_nat (by omega)
    have b_2 : inb (Int32.ofNat (368 + 4 * i + best)) 1168 = true := inb_nat (by omega) (by decide)
    have n_2 : (Int32.ofNat (368 + 4 * i + best)).toNatClampNeg = 368 + 4 * i + best := i32_nat (by omega)
    unfold bkS
    by_cases c : h.mi s (368 + 4 * i + best) < h.mi s (368 + 4 * i + k)
    · have c2 : ¬ h.mi s (368 + 4 * i + k) ≤ h.mi s (368 + 4 * i + best) := Int32.not_le.mpr c
      refine ⟨⟨by omega, by rw [if_pos c]; exact hk4⟩, tl, ?_⟩
      rw [D_259_5]
      simp -implicitDefEqProofs only [D_259_0, k_259_0, k_259_5, D_259_40, k_259_40, D_259_46, k_259_46, R_259, g_iconst, g_istore_n, g_istore, v_iload, v_iload_n, g_icmp_ge, v_aload_n, g_sipush, g_imul, g_iadd, v_iaload, inI_0, g_icmp_le, v_iinc, g_goto, g_ireturn, entL, getL, setL, kL_i, kL_r, isI_s, isR_s, isJ_s, gV_s, iV_i, cs0, cs1, cs2, cs3, cs4, dn_nil, kd_si, kd_sl, kd_sw, mr_si, mr_sl, mr_sw, ml_si, ml_sw, mi_sl, hk, ↓if_neg e, if_neg e, lm_4, la_368, i32_add, b_1, n_1, b_2, n_2, ↓if_neg c2, if_neg c2, ↓if_pos c, if_pos c, s1]
    · have c2 : h.mi s (368 + 4 * i + k) ≤ h.mi s (368 + 4 * i + best) := Int32.not_lt.mp c
      refine ⟨⟨by omega, by rw [if_neg c]; exact hb⟩, tl, ?_⟩
      rw [D_259_5]
      simp -implicitDefEqProofs only [D_259_0, k_259_0, k_259_5, D_259_40, k_259_40, D_259_46, k_259_46, R_259, g_iconst, g_istore_n, g_istore, v_iload, v_iload_n, g_icmp_ge, v_aload_n, g_sipush, g_imul, g_iadd, v_iaload, inI_0, g_icmp_le, v_iinc, g_goto, g_ireturn, entL, getL, setL, kL_i, kL_r, isI_s, isR_s, isJ_s, gV_s, iV_i, cs0, cs1, cs2, cs3, cs4, dn_nil, kd_si, kd_sl, kd_sw, mr_si, mr_sl, mr_sw, ml_si, ml_sw, mi_sl, hk, ↓if_neg e, if_neg e, lm_4, la_368, i32_add, b_1, n_1, b_2, n_2, ↓if_pos c2, if_pos c2, ↓if_neg c, if_neg c, s1]
  · intro best tl hI
    have e : Int32.ofNat (nk) ≤ Int32.ofNat (1 + (nk - 1)) := by rw [i32_le (by omega) (by omega)]; omega
    rw [D_259_5]
    simp -implicitDefEqProofs only [D_259_0, k_259_0, k_259_5, D_259_40, k_259_40, D_259_46, k_259_46, R_259, g_iconst, g_istore_n, g_istore, v_iload, v_iload_n, g_icmp_ge, v_aload_n, g_sipush, g_imul, g_iadd, v_iaload, inI_0, g_icmp_le, v_iinc, g_goto, g_ireturn, entL, getL, setL, kL_i, kL_r, isI_s, isR_s, isJ_s, gV_s, iV_i, cs0, cs1, cs2, cs3, cs4, dn_nil, kd_si, kd_sl, kd_sw, mr_si, mr_sl, mr_sw, ml_si, ml_sw, mi_sl, ↓if_pos e, if_pos e, retX_int]
theorem fl_inv {A : Type} {f : Nat → A → A} {I : Nat → A → Prop} : ∀ (d i : Nat) (a : A), I i a → (∀ j a, i ≤ j → j < i + d → I j a → I (j + 1) (f j a)) → I (i + d) (fl f d i a) := by
  intro d
  induction d with
  | zero => intro i a h0 _; exact h0
  | succ d ih =>
    intro i a h0 hs
    have := ih (i + 1) (f i a) (hs i a (by omega) (by omega) h0) (fun j a h1 h2 h3 => hs j a (by omega) (by omega) h3)
    rw [show i + (d + 1) = i + 1 + d by omega]
    exact this
theorem bkF_lt {S : Nat → Int32} {i nk : Nat} (hnk : nk ≤ 4) : bkF S i nk < 4 ∧ (1 ≤ nk → bkF S i nk < nk) := by
  have := fl_inv (f := bkS S i) (I := fun k best => best < k ∧ best < 4) (nk - 1) 1 0 ⟨by omega, by omega⟩ (fun j a h1 h2 h3 => by
    unfold bkS
    split <;> omega)
  unfold bkF
  omega
theorem R_219 : PG.2.1 219 = (some .int) := rfl
def ldS (S : Nat → Int32) (i best k : Nat) (a : Int32) : Int32 := if k = best then a else if a < S (368 + 4 * i + k) then S (368 + 4 * i + k) else a
def leadF (S : Nat → Int32) (i nk : Nat) : Int32 := S (368 + 4 * i + bkF S i nk) - fl (ldS S i (bkF S i nk)) nk 0 0
theorem m_219 {s i nk : Nat} (hi : i < 80) (hnk : nk ≤ 4) {h : Mm} (hk : h.kd s = some (.inr (.int, 1168))) : dM PG 219 [.ref s, .int (Int32.ofNat i), .int (Int32.ofNat nk)] h = some (.inl (some (.int (leadF (h.mi s) i nk))), h) := by
  rw [dM_of (Nat.le_of_ble_eq_true rfl)]
  simp -implicitDefEqProofs only [D_219_0, k_219_0, v_aload_n, v_iload_n, v_callS3, aft_v, aft_n, g_istore_n, g_iconst, g_istore, entL, getL, setL, kL_i, kL_r, isI_s, isR_s, isJ_s, gV_s, iV_i, cs0, cs1, cs2, cs3, cs4, dn_nil, kd_si, kd_sl, kd_sw, mr_si, mr_sl, mr_sw, ml_si, ml_sw, mi_sl, m_259 hi hnk hk]
  have hb := (bkF_lt (S := h.mi s) (i := i) hnk).1
  unfold leadF
  refine lq (n := nk) (f := ldS (h.mi s) i (bkF (h.mi s) i nk)) (L := fun k a tl => some (.ref s) :: some (.int (Int32.ofNat i)) :: some (.int (Int32.ofNat nk)) :: some (.int (Int32.ofNat (bkF (h.mi s) i nk))) :: some (.int a) :: some (.int (Int32.ofNat k)) :: tl) (r := fun a => some (.inl (some (.int (h.mi s (368 + 4 * i + bkF (h.mi s) i nk) - a))), h)) ?_ ?_ nk 0 0 [] (by omega)
  · intro k a tl hk'
    refine ⟨tl, ?_⟩
    have e : ¬ Int32.ofNat (nk) ≤ Int32.ofNat (k) := by rw [i32_le (by omega) (by omega)]; omega
    have s1 : Int32.ofNat (k) + 1 = Int32.ofNat (k + 1) := i32_add (b := 1)
    have b_1 : inb (Int32.ofNat (368 + 4 * i + k)) 1168 = true := inb_nat (by omega) (by decide)
    have n_1 : (Int32.ofNat (368 + 4 * i + k)).toNatClampNeg = 368 + 4 * i + k := i32_nat (by omega)
    unfold ldS
    rw [D_219_13]
    by_cases c : k = bkF (h.mi s) i nk
    · have c2 : Int32.ofNat k = Int32.ofNat (bkF (h.mi s) i nk) := by rw [← c]
      simp -implicitDefEqProofs only [D_219_0, k_219_0, k_219_13, D_219_44, k_219_44, D_219_50, k_219_50, R_219, v_aload_n, v_iload_n, v_callS3, aft_v, aft_n, g_istore_n, g_iconst, g_istore, v_iload, g_icmp_ge, g_icmp_eq, g_sipush, g_imul, g_iadd, v_iaload, inI_0, g_max, v_iinc, g_goto, g_isub, g_ireturn, entL, getL, setL, kL_i, kL_r, isI_s, isR_s, isJ_s, gV_s, iV_i, cs0, cs1, cs2, cs3, cs4, dn_nil, kd_si, kd_sl, kd_sw, mr_si, mr_sl, mr_sw, ml_si, ml_sw, mi_sl, hk, ↓if_neg e, if_neg e, ↓if_pos c2, if_pos c2, ↓if_pos c, if_pos c, s1]
    · have c2 : ¬ Int32.ofNat k = Int32.ofNat (bkF (h.mi s) i nk) := i32_ne (by omega) (by omega) c
      simp -implicitDefEqProofs only [D_219_0, k_219_0, k_219_13, D_219_44, k_219_44, D_219_50, k_219_50, R_219, v_aload_n, v_iload_n, v_callS3, aft_v, aft_n, g_istore_n, g_iconst, g_istore, v_iload, g_icmp_ge, g_icmp_eq, g_sipush, g_imul, g_iadd, v_iaload, inI_0, g_max, v_iinc, g_goto, g_isub, g_ireturn, entL, getL, setL, kL_i, kL_r, isI_s, isR_s, isJ_s, gV_s, iV_i, cs0, cs1, cs2, cs3, cs4, dn_nil, kd_si, kd_sl, kd_sw, mr_si, mr_sl, mr_sw, ml_si, ml_sw, mi_sl, hk, ↓if_neg e, if_neg e, ↓if_neg c2, if_neg c2, ↓if_neg c, if_neg c, lm_4, la_368, i32_add, b_1, n_1, s1]
  · intro a tl
    have e : Int32.ofNat (nk) ≤ Int32.ofNat (nk) := by rw [i32_le (by omega) (by omega)]; omega
    have b_1 : inb (Int32.ofNat (368 + 4 * i + bkF (h.mi s) i nk)) 1168 = true := inb_nat (by omega) (by decide)
    have n_1 : (Int32.ofNat (368 + 4 * i + bkF (h.mi s) i nk)).toNatClampNeg = 368 + 4 * i + bkF (h.mi s) i nk := i32_nat (by omega)
    rw [D_219_13]
    simp -implicitDefEqProofs only [D_219_0, k_219_0, k_219_13, D_219_44, k_219_44, D_219_50, k_219_50, R_219, v_aload_n, v_iload_n, v_callS3, aft_v, aft_n, g_istore_n, g_iconst, g_istore, v_iload, g_icmp_ge, g_icmp_eq, g_sipush, g_imul, g_iadd, v_iaload, inI_0, g_max, v_iinc, g_goto, g_isub, g_ireturn, entL, getL, setL, kL_i, kL_r, isI_s, isR_s, isJ_s, gV_s, iV_i, cs0, cs1, cs2, cs3, cs4, dn_nil, kd_si, kd_sl, kd_sw, mr_si, mr_sl, mr_sw, ml_si, ml_sw, mi_sl, hk, ↓if_pos e, if_pos e, lm_4, la_368, i32_add, b_1, n_1, retX_int]
theorem R_164 : PG.2.1 164 = (some .int) := rfl
def kbF (S pl : Nat → Int32) (i nk : Nat) : Int32 := if leadF S i nk < pl 1 then -1 else Int32.ofNat (bkF S i nk)
theorem m_164 {s p i nk : Nat} (hi : i < 80) (hnk : nk ≤ 4) {h : Mm} (hk : h.kd s = some (.inr (.int, 1168))) (hp : h.kd p = some (.inr (.int, 26))) (h7 : h.mi p 7 = Int32.ofNat nk) : dM PG 164 [.ref s, .int (Int32.ofNat i), .ref p] h = some (.inl (some (.int (kbF (h.mi s) (h.mi p) i nk))), h) := by
  rw [dM_of (Nat.le_of_ble_eq_true rfl)]
  unfold kbF
  by_cases c : leadF (h.mi s) i nk < h.mi p 1
  · have c2 : ¬ h.mi p 1 ≤ leadF (h.mi s) i nk := Int32.not_le.mpr c
    simp -implicitDefEqProofs only [D_164_0, k_164_0, D_164_19, k_164_19, D_164_28, k_164_28, R_164, v_aload_n, v_iload_n, g_bipush, v_iaload, inI_0, v_callS3, aft_v, aft_n, g_iconst, g_icmp_ge, g_goto, g_ireturn, entL, getL, setL, kL_i, kL_r, isI_s, isR_s, isJ_s, gV_s, iV_i, cs0, cs1, cs2, cs3, cs4, dn_nil, kd_si, kd_sl, kd_sw, mr_si, mr_sl, mr_sw, ml_si, ml_sw, mi_sl, hp, ip_7, ix_7, ip_1, ix_1, h7, m_219 hi hnk hk, ↓if_neg c2, if_neg c2, ↓if_pos c, if_pos c, retX_int]
  · have c2 : h.mi p 1 ≤ leadF (h.mi s) i nk := Int32.not_lt.mp c
    simp -implicitDefEqProofs only [D_164_0, k_164_0, D_164_19, k_164_19, D_164_28, k_164_28, R_164, v_aload_n, v_iload_n, g_bipush, v_iaload, inI_0, v_callS3, aft_v, aft_n, g_iconst, g_icmp_ge, g_goto, g_ireturn, entL, getL, setL, kL_i, kL_r, isI_s, isR_s, isJ_s, gV_s, iV_i, cs0, cs1, cs2, cs3, cs4, dn_nil, kd_si, kd_sl, kd_sw, mr_si, mr_sl, mr_sw, ml_si, ml_sw, mi_sl, hp, ip_7, ix_7, ip_1, ix_1, h7, m_219 hi hnk hk, m_259 hi hnk hk, ↓if_pos c2, if_pos c2, ↓if_neg c, if_neg c, retX_int]
theorem R_107 : PG.2.1 107 = (some .int) := rfl
theorem m_107n {i : Int32} {h : Mm} (H : MO h) (hl : h.mi 277 21 = 0) : dM PG 107 [.ref 277, .int i] h = some (.inl (some (.int 0)), h.si 277 0 1) := by
  rw [dM_of (Nat.le_of_ble_eq_true rfl)]
  simp -implicitDefEqProofs only [D_107_0, k_107_0, D_107_30, k_107_30, D_107_31, k_107_31, R_107, v_aload_n, v_iload_n, v_callV2, aft_v, aft_n, g_if_eq, g_getfield, sv_a, rf_s, g_bipush, v_iaload, inI_0, v_callS3, g_goto, g_iconst, g_ireturn, entL, getL, setL, kL_i, kL_r, isI_s, isR_s, isJ_s, gV_s, iV_i, cs0, cs1, cs2, cs3, cs4, dn_nil, kd_si, kd_sl, kd_sw, mr_si, mr_sl, mr_sw, ml_si, ml_sw, mi_sl, mk_277 H, mk_278 H, mk_279 H, mk_280 H, mk_281 H, mk_282 H, mk_283 H, mk_284 H, mk_285 H, mk_286 H, mk_287 H, mk_288 H, mk_289 H, mr_1 H, mr_11 H, mr_12 H, mr_13 H, mr_14 H, mr_15 H, mr_16 H, mr_17 H, mr_18 H, mr_19 H, mr_24 H, mr_25 H, m_218m H, m_138n H hl, ↓if_true, if_true, retX_int]
theorem m_107x {i : Int32} {h : Mm} (H : MO h) (hl : ¬ h.mi 277 21 = 0) (c : inF i 0 (h.mi 283 9 - 1) = 0) : dM PG 107 [.ref 277, .int i] h = some (.inl (some (.int 0)), h.si 277 0 2) := by
  rw [dM_of (Nat.le_of_ble_eq_true rfl)]
  simp -implicitDefEqProofs only [D_107_0, k_107_0, D_107_30, k_107_30, D_107_31, k_107_31, R_107, v_aload_n, v_iload_n, v_callV2, aft_v, aft_n, g_if_eq, g_getfield, sv_a, rf_s, g_bipush, v_iaload, inI_0, v_callS3, g_goto, g_iconst, g_ireturn, entL, getL, setL, kL_i, kL_r, isI_s, isR_s, isJ_s, gV_s, iV_i, cs0, cs1, cs2, cs3, cs4, dn_nil, kd_si, kd_sl, kd_sw, mr_si, mr_sl, mr_sw, ml_si, ml_sw, mi_sl, mk_277 H, mk_278 H, mk_279 H, mk_280 H, mk_281 H, mk_282 H, mk_283 H, mk_284 H, mk_285 H, mk_286 H, mk_287 H, mk_288 H, mk_289 H, mr_1 H, mr_11 H, mr_12 H, mr_13 H, mr_14 H, mr_15 H, mr_16 H, mr_17 H, mr_18 H, mr_19 H, mr_24 H, mr_25 H, m_218m H, c, m_138x H hl, ↓if_true, if_true, retX_int]
theorem m_107y {i nk : Nat} (hi : i < 80) (hnk : nk ≤ 4) {h : Mm} (H : MO h) (hl : ¬ h.mi 277 21 = 0) (c : inF (Int32.ofNat i) 0 (h.mi 283 9 - 1) = 1) (h7 : h.mi 279 7 = Int32.ofNat nk) : dM PG 107 [.ref 277, .int (Int32.ofNat i)] h = some (.inl (some (.int (leadF (h.mi 283) i nk))), h.si 277 0 0) := by
  rw [dM_of (Nat.le_of_ble_eq_true rfl)]
  have g := m_219 hi hnk (h := h.si 277 0 0) (mk_283 H)
  rw [mi_sa k283] at g
  simp -implicitDefEqProofs only [D_107_0, k_107_0, D_107_30, k_107_30, D_107_31, k_107_31, R_107, v_aload_n, v_iload_n, v_callV2, aft_v, aft_n, g_if_eq, g_getfield, sv_a, rf_s, g_bipush, v_iaload, inI_0, v_callS3, g_goto, g_iconst, g_ireturn, entL, getL, setL, kL_i, kL_r, isI_s, isR_s, isJ_s, gV_s, iV_i, cs0, cs1, cs2, cs3, cs4, dn_nil, kd_si, kd_sl, kd_sw, mr_si, mr_sl, mr_sw, ml_si, ml_sw, mi_sl, mk_277 H, mk_278 H, mk_279 H, mk_280 H, mk_281 H, mk_282 H, mk_283 H, mk_284 H, mk_285 H, mk_286 H, mk_287 H, mk_288 H, mk_289 H, mr_1 H, mr_11 H, mr_12 H, mr_13 H, mr_14 H, mr_15 H, mr_16 H, mr_17 H, mr_18 H, mr_19 H, mr_24 H, mr_25 H, m_218m H, c, m_138y H hl, ↓if_neg z_1, if_neg z_1, ip_7, ix_7, mi_sa k279, h7, g, retX_int]
theorem R_166 : PG.2.1 166 = (some .boolean) := rfl
theorem m_166k {k p : Int32} {h : Mm} (H : MO h) (c : inF k 0 (h.mi 279 7 - 1) = 0) : dM PG 166 [.ref 277, .int k, .int p] h = some (.inl (some (.int 0)), h) := by
  rw [dM_of (Nat.le_of_ble_eq_true rfl)]
  simp -implicitDefEqProofs only [D_166_0, k_166_0, D_166_31, k_166_31, D_166_32, k_166_32, R_166, v_aload_n, v_iload_n, v_callV2, aft_v, aft_n, g_if_eq, g_iconst, g_getfield, sv_a, rf_s, g_bipush, g_iadd, v_iaload, inI_0, g_isub, v_callS3, g_goto, g_ireturn, entL, getL, setL, kL_i, kL_r, isI_s, isR_s, isJ_s, gV_s, iV_i, cs0, cs1, cs2, cs3, cs4, dn_nil, kd_si, kd_sl, kd_sw, mr_si, mr_sl, mr_sw, ml_si, ml_sw, mi_sl, mk_277 H, mk_278 H, mk_279 H, mk_280 H, mk_281 H, mk_282 H, mk_283 H, mk_284 H, mk_285 H, mk_286 H, mk_287 H, mk_288 H, mk_289 H, mr_1 H, mr_11 H, mr_12 H, mr_13 H, mr_14 H, mr_15 H, mr_16 H, mr_17 H, mr_18 H, mr_19 H, mr_24 H, mr_25 H, m_154 H, c, ↓if_true, if_true, rX_0]
theorem m_166 {k : Nat} {p : Int32} (hk : k < 4) {h : Mm} (H : MO h) (c : inF (Int32.ofNat k) 0 (h.mi 279 7 - 1) = 1) : dM PG 166 [.ref 277, .int (Int32.ofNat k), .int p] h = some (.inl (some (.int (inF p 0 (h.mi 279 (8 + k) - 1)))), h) := by
  rw [dM_of (Nat.le_of_ble_eq_true rfl)]
  have b_1 : inb (Int32.ofNat (8 + k)) 26 = true := inb_nat (by omega) (by decide)
  have n_1 : (Int32.ofNat (8 + k)).toNatClampNeg = 8 + k := i32_nat (by omega)
  rcases inF_or p 0 (h.mi 279 (8 + k) - 1) with d | d
  · rw [d]
    simp -implicitDefEqProofs only [D_166_0, k_166_0, D_166_31, k_166_31, D_166_32, k_166_32, R_166, v_aload_n, v_iload_n, v_callV2, aft_v, aft_n, g_if_eq, g_iconst, g_getfield, sv_a, rf_s, g_bipush, g_iadd, v_iaload, inI_0, g_isub, v_callS3, g_goto, g_ireturn, entL, getL, setL, kL_i, kL_r, isI_s, isR_s, isJ_s, gV_s, iV_i, cs0, cs1, cs2, cs3, cs4, dn_nil, kd_si, kd_sl, kd_sw, mr_si, mr_sl, mr_sw, ml_si, ml_sw, mi_sl, mk_277 H, mk_278 H, mk_279 H, mk_280 H, mk_281 H, mk_282 H, mk_283 H, mk_284 H, mk_285 H, mk_286 H, mk_287 H, mk_288 H, mk_289 H, mr_1 H, mr_11 H, mr_12 H, mr_13 H, mr_14 H, mr_15 H, mr_16 H, mr_17 H, mr_18 H, mr_19 H, mr_24 H, mr_25 H, m_154 H, c, ↓if_neg z_1, if_neg z_1, la_8, b_1, n_1, m_136, d, ↓if_true, if_true, rX_0]
  · rw [d]
    simp -implicitDefEqProofs only [D_166_0, k_166_0, D_166_31, k_166_31, D_166_32, k_166_32, R_166, v_aload_n, v_iload_n, v_callV2, aft_v, aft_n, g_if_eq, g_iconst, g_getfield, sv_a, rf_s, g_bipush, g_iadd, v_iaload, inI_0, g_isub, v_callS3, g_goto, g_ireturn, entL, getL, setL, kL_i, kL_r, isI_s, isR_s, isJ_s, gV_s, iV_i, cs0, cs1, cs2, cs3, cs4, dn_nil, kd_si, kd_sl, kd_sw, mr_si, mr_sl, mr_sw, ml_si, ml_sw, mi_sl, mk_277 H, mk_278 H, mk_279 H, mk_280 H, mk_281 H, mk_282 H, mk_283 H, mk_284 H, mk_285 H, mk_286 H, mk_287 H, mk_288 H, mk_289 H, mr_1 H, mr_11 H, mr_12 H, mr_13 H, mr_14 H, mr_15 H, mr_16 H, mr_17 H, mr_18 H, mr_19 H, mr_24 H, mr_25 H, m_154 H, c, ↓if_neg z_1, if_neg z_1, la_8, b_1, n_1, m_136, d, rX_1]
theorem R_105 : PG.2.1 105 = (some .int) := rfl
theorem m_105n {k p : Int32} {h : Mm} (H : MO h) (hl : h.mi 277 21 = 0) {t : Int32} (g : dM PG 166 [.ref 277, .int k, .int p] h = some (.inl (some (.int t)), h)) : dM PG 105 [.ref 277, .int k, .int p] h = some (.inl (some (.int 0)), h.si 277 0 1) := by
  rw [dM_of (Nat.le_of_ble_eq_true rfl)]
  simp -implicitDefEqProofs only [D_105_0, k_105_0, D_105_26, k_105_26, D_105_27, k_105_27, R_105, v_aload_n, v_iload_n, v_callV3, aft_v, aft_n, v_callV2, g_if_eq, g_getfield, sv_a, rf_s, v_callS2, v_iaload, inI_0, g_goto, g_iconst, g_ireturn, entL, getL, setL, kL_i, kL_r, isI_s, isR_s, isJ_s, gV_s, iV_i, cs0, cs1, cs2, cs3, cs4, dn_nil, kd_si, kd_sl, kd_sw, mr_si, mr_sl, mr_sw, ml_si, ml_sw, mi_sl, mk_277 H, mk_278 H, mk_279 H, mk_280 H, mk_281 H, mk_282 H, mk_283 H, mk_284 H, mk_285 H, mk_286 H, mk_287 H, mk_288 H, mk_289 H, mr_1 H, mr_11 H, mr_12 H, mr_13 H, mr_14 H, mr_15 H, mr_16 H, mr_17 H, mr_18 H, mr_19 H, mr_24 H, mr_25 H, g, m_138n H hl, ↓if_true, if_true, retX_int]
theorem m_105x {k p : Int32} {h : Mm} (H : MO h) (hl : ¬ h.mi 277 21 = 0) (g : dM PG 166 [.ref 277, .int k, .int p] h = some (.inl (some (.int 0)), h)) : dM PG 105 [.ref 277, .int k, .int p] h = some (.inl (some (.int 0)), h.si 277 0 2) := by
  rw [dM_of (Nat.le_of_ble_eq_true rfl)]
  simp -implicitDefEqProofs only [D_105_0, k_105_0, D_105_26, k_105_26, D_105_27, k_105_27, R_105, v_aload_n, v_iload_n, v_callV3, aft_v, aft_n, v_callV2, g_if_eq, g_getfield, sv_a, rf_s, v_callS2, v_iaload, inI_0, g_goto, g_iconst, g_ireturn, entL, getL, setL, kL_i, kL_r, isI_s, isR_s, isJ_s, gV_s, iV_i, cs0, cs1, cs2, cs3, cs4, dn_nil, kd_si, kd_sl, kd_sw, mr_si, mr_sl, mr_sw, ml_si, ml_sw, mi_sl, mk_277 H, mk_278 H, mk_279 H, mk_280 H, mk_281 H, mk_282 H, mk_283 H, mk_284 H, mk_285 H, mk_286 H, mk_287 H, mk_288 H, mk_289 H, mr_1 H, mr_11 H, mr_12 H, mr_13 H, mr_14 H, mr_15 H, mr_16 H, mr_17 H, mr_18 H, mr_19 H, mr_24 H, mr_25 H, g, m_138x H hl, ↓if_true, if_true, retX_int]
theorem m_105y {k p : Nat} (hk : k < 4) (hp : p < 3) {h : Mm} (H : MO h) (hl : ¬ h.mi 277 21 = 0) (g : dM PG 166 [.ref 277, .int (Int32.ofNat k), .int (Int32.ofNat p)] h = some (.inl (some (.int 1)), h)) : dM PG 105 [.ref 277, .int (Int32.ofNat k), .int (Int32.ofNat p)] h = some (.inl (some (.int (h.mi 283 (26 + 3 * k + p)))), h.si 277 0 0) := by
  rw [dM_of (Nat.le_of_ble_eq_true rfl)]
  have b_1 : inb (Int32.ofNat (26 + 3 * k + p)) 1168 = true := inb_nat (by omega) (by decide)
  have n_1 : (Int32.ofNat (26 + 3 * k + p)).toNatClampNeg = 26 + 3 * k + p := i32_nat (by omega)
  simp -implicitDefEqProofs only [D_105_0, k_105_0, D_105_26, k_105_26, D_105_27, k_105_27, R_105, v_aload_n, v_iload_n, v_callV3, aft_v, aft_n, v_callV2, g_if_eq, g_getfield, sv_a, rf_s, v_callS2, v_iaload, inI_0, g_goto, g_iconst, g_ireturn, entL, getL, setL, kL_i, kL_r, isI_s, isR_s, isJ_s, gV_s, iV_i, cs0, cs1, cs2, cs3, cs4, dn_nil, kd_si, kd_sl, kd_sw, mr_si, mr_sl, mr_sw, ml_si, ml_sw, mi_sl, mk_277 H, mk_278 H, mk_279 H, mk_280 H, mk_281 H, mk_282 H, mk_283 H, mk_284 H, mk_285 H, mk_286 H, mk_287 H, mk_288 H, mk_289 H, mr_1 H, mr_11 H, mr_12 H, mr_13 H, mr_14 H, mr_15 H, mr_16 H, mr_17 H, mr_18 H, mr_19 H, mr_24 H, mr_25 H, g, m_138y H hl, ↓if_neg z_1, if_neg z_1, m_172, b_1, n_1, mi_sa k283, retX_int]
