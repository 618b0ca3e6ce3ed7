-- ===== the model: an item added, ticks that stay, the pool emptied =====
theorem R_163 : PG.2.1 163 = (some .int) := rfl
def wgF (r f : Int64) (c : Int32) : Int32 := (if (2 * r * c.toInt64 + f) / (2 * f) < 60000 then (2 * r * c.toInt64 + f) / (2 * f) else 60000).toInt32
theorem m_163 {r f : Int64} {c : Int32} (hz : ¬ 2 * f = 0) {h : Mm} : dM PG 163 [.long r, .long f, .int c] h = some (.inl (some (.int (wgF r f c))), h) := by
  rw [dM_of (Nat.le_of_ble_eq_true rfl)]
  simp -implicitDefEqProofs only [D_163_0, k_163_0, R_163, g_ldc2_w, v_lload_n, g_lmul, v_iload, g_i2l, g_ladd, g_ldiv, g_minL, g_l2i, g_ireturn, entL, getL, setL, kL_i, kL_r, isI_s, isR_s, isJ_s, gV_s, iV_i, cs0, cs1, cs2, cs3, cs4, dn_nil, kd_si, kd_sl, kd_sw, mr_si, mr_sl, mr_sw, ml_si, ml_sw, mi_sl, ↓if_neg hz, if_neg hz, retX_int]
  rfl
theorem R_33 : PG.2.1 33 = (some .int) := rfl
theorem m_33n {i : Int32} {h : Mm} (H : MO h) (hl : h.mi 277 21 = 0) : dM PG 33 [.ref 277, .int i] h = some (.inl (some (.int 0)), h.si 277 0 1) := by
  rw [dM_of (Nat.le_of_ble_eq_true rfl)]
  simp -implicitDefEqProofs only [D_33_0, k_33_0, R_33, v_aload_n, v_iload_n, g_bipush, g_iconst, v_callV4, aft_v, aft_n, g_if_ne, g_ireturn, entL, getL, setL, kL_i, kL_r, isI_s, isR_s, isJ_s, gV_s, iV_i, cs0, cs1, cs2, cs3, cs4, dn_nil, kd_si, kd_sl, kd_sw, mr_si, mr_sl, mr_sw, ml_si, ml_sw, mi_sl, mk_277 H, mk_278 H, mk_279 H, mk_280 H, mk_281 H, mk_282 H, mk_283 H, mk_284 H, mk_285 H, mk_286 H, mk_287 H, mk_288 H, mk_289 H, mr_1 H, mr_11 H, mr_12 H, mr_13 H, mr_14 H, mr_15 H, mr_16 H, mr_17 H, mr_18 H, mr_19 H, mr_24 H, mr_25 H, m_175n H hl, ↓if_true, if_true, retX_int]
theorem m_33x {i : Int32} {h : Mm} (H : MO h) (hl : ¬ h.mi 277 21 = 0) (c : inF i 1 100 = 0) : dM PG 33 [.ref 277, .int i] h = some (.inl (some (.int 0)), h.si 277 0 2) := by
  rw [dM_of (Nat.le_of_ble_eq_true rfl)]
  simp -implicitDefEqProofs only [D_33_0, k_33_0, R_33, v_aload_n, v_iload_n, g_bipush, g_iconst, v_callV4, aft_v, aft_n, g_if_ne, g_ireturn, entL, getL, setL, kL_i, kL_r, isI_s, isR_s, isJ_s, gV_s, iV_i, cs0, cs1, cs2, cs3, cs4, dn_nil, kd_si, kd_sl, kd_sw, mr_si, mr_sl, mr_sw, ml_si, ml_sw, mi_sl, mk_277 H, mk_278 H, mk_279 H, mk_280 H, mk_281 H, mk_282 H, mk_283 H, mk_284 H, mk_285 H, mk_286 H, mk_287 H, mk_288 H, mk_289 H, mr_1 H, mr_11 H, mr_12 H, mr_13 H, mr_14 H, mr_15 H, mr_16 H, mr_17 H, mr_18 H, mr_19 H, mr_24 H, mr_25 H, m_175x (at' := 2) H hl (by decide) c, ↓if_true, if_true, retX_int]
theorem m_33y {i : Int32} {u : Nat} (hu : u ≤ 8) {h : Mm} (H : MO h) (hl : ¬ h.mi 277 21 = 0) (c : inF i 1 100 = 1) (h20 : h.mi 277 20 = Int32.ofNat u) {S : Nat → Int32} (hr : dM PG 176 [.ref 277, .ref 283, .int i] (h.chM u (h.mi 283)) = some (.inl none, h.chM u S)) : dM PG 33 [.ref 277, .int i] h = some (.inl (some (.int (S 8 - h.mi 283 8))), h.chM u S) := by
  rw [dM_of (Nat.le_of_ble_eq_true rfl)]
  simp -implicitDefEqProofs only [D_33_0, k_33_0, D_33_13, k_33_13, R_33, v_aload_n, v_iload_n, g_bipush, g_iconst, v_callV4, aft_v, aft_n, g_if_ne, g_ireturn, v_callV1, g_getfield, sv_a, rf_s, v_iaload, inI_0, g_istore_n, v_callV3, g_isub, entL, getL, setL, kL_i, kL_r, isI_s, isR_s, isJ_s, gV_s, iV_i, cs0, cs1, cs2, cs3, cs4, dn_nil, kd_si, kd_sl, kd_sw, mr_si, mr_sl, mr_sw, ml_si, ml_sw, mi_sl, mk_277 H, mk_278 H, mk_279 H, mk_280 H, mk_281 H, mk_282 H, mk_283 H, mk_284 H, mk_285 H, mk_286 H, mk_287 H, mk_288 H, mk_289 H, mr_1 H, mr_11 H, mr_12 H, mr_13 H, mr_14 H, mr_15 H, mr_16 H, mr_17 H, mr_18 H, mr_19 H, mr_24 H, mr_25 H, m_175y H hl c, ↓if_neg z_1, if_neg z_1, m_157c hu H h20, ch_k, ch_r, ch_3, hr, in_8, ix_8, retX_int]
theorem R_27 : PG.2.1 27 = (some .int) := rfl
def aiS (sp cf : Int32) (i k : Nat) (S : Nat → Int32) : Nat → Int32 := zu S (368 + 4 * i + k) (if Int32.ofNat k = sp then cf else 0)
def aiA (S : Nat → Int32) (i : Nat) (w sp cf : Int32) : Nat → Int32 := fl (aiS sp cf i) 4 0 (zu S (208 + i) w)
def aiB (S pl : Nat → Int32) (i nk : Nat) (w sp cf : Int32) : Nat → Int32 := zu (aiA S i w sp cf) (288 + i) (kbF (aiA S i w sp cf) pl i nk)
def aiC (S pl : Nat → Int32) (i nk : Nat) (w sp cf : Int32) : Nat → Int32 := zu (zu (aiB S pl i nk w sp cf) (48 + i) 0) (128 + i) (-1)
def aiF (S pl : Nat → Int32) (i nk : Nat) (w sp cf : Int32) : Nat → Int32 := zu (aiC S pl i nk w sp cf) 9 (aiC S pl i nk w sp cf 9 + 1)
theorem m_27n {a b k c : Int32} {h : Mm} (H : MO h) (hl : h.mi 277 21 = 0) : dM PG 27 [.ref 277, .int a, .int b, .int k, .int c] h = some (.inl (some (.int 0)), h.si 277 0 1) := by
  rw [dM_of (Nat.le_of_ble_eq_true rfl)]
  simp -implicitDefEqProofs only [D_27_0, k_27_0, R_27, v_aload_n, v_iload_n, v_callV2, aft_v, aft_n, g_if_ne, g_iconst, g_ireturn, entL, getL, setL, kL_i, kL_r, isI_s, isR_s, isJ_s, gV_s, iV_i, cs0, cs1, cs2, cs3, cs4, dn_nil, kd_si, kd_sl, kd_sw, mr_si, mr_sl, mr_sw, ml_si, ml_sw, mi_sl, mk_277 H, mk_278 H, mk_279 H, mk_280 H, mk_281 H, mk_282 H, mk_283 H, mk_284 H, mk_285 H, mk_286 H, mk_287 H, mk_288 H, mk_289 H, mr_1 H, mr_11 H, mr_12 H, mr_13 H, mr_14 H, mr_15 H, mr_16 H, mr_17 H, mr_18 H, mr_19 H, mr_24 H, mr_25 H, m_154 H, m_138n H hl, ↓if_true, if_true, retX_int]
theorem m_27x {a b k c : Int32} {h : Mm} (H : MO h) (hl : ¬ h.mi 277 21 = 0) (ck : inF k 0 (h.mi 279 7 - 1) = 0) : dM PG 27 [.ref 277, .int a, .int b, .int k, .int c] h = some (.inl (some (.int 0)), h.si 277 0 2) := by
  rw [dM_of (Nat.le_of_ble_eq_true rfl)]
  simp -implicitDefEqProofs only [D_27_0, k_27_0, R_27, v_aload_n, v_iload_n, v_callV2, aft_v, aft_n, g_if_ne, g_iconst, g_ireturn, entL, getL, setL, kL_i, kL_r, isI_s, isR_s, isJ_s, gV_s, iV_i, cs0, cs1, cs2, cs3, cs4, dn_nil, kd_si, kd_sl, kd_sw, mr_si, mr_sl, mr_sw, ml_si, ml_sw, mi_sl, mk_277 H, mk_278 H, mk_279 H, mk_280 H, mk_281 H, mk_282 H, mk_283 H, mk_284 H, mk_285 H, mk_286 H, mk_287 H, mk_288 H, mk_289 H, mr_1 H, mr_11 H, mr_12 H, mr_13 H, mr_14 H, mr_15 H, mr_16 H, mr_17 H, mr_18 H, mr_19 H, mr_24 H, mr_25 H, m_154 H, ck, m_138x H hl, ↓if_true, if_true, retX_int]
theorem m_27r {a b k c : Int32} {h : Mm} (H : MO h) (hl : ¬ h.mi 277 21 = 0) (ck : inF k 0 (h.mi 279 7 - 1) = 1) (cr : inF a 0 20000 = 0 ∨ inF b 1 9999 = 0 ∨ inF c 1 99 = 0) : dM PG 27 [.ref 277, .int a, .int b, .int k, .int c] h = some (.inl (some (.int 0)), h.si 277 0 3) := by
  rw [dM_of (Nat.le_of_ble_eq_true rfl)]
  rcases inF_or a 0 20000 with ca | ca
  · simp -implicitDefEqProofs only [D_27_0, k_27_0, D_27_14, k_27_14, D_27_47, k_27_47, R_27, v_aload_n, v_iload_n, v_callV2, aft_v, aft_n, g_if_ne, g_iconst, g_ireturn, g_sipush, v_callS3, g_if_eq, v_iload, g_bipush, entL, getL, setL, kL_i, kL_r, isI_s, isR_s, isJ_s, gV_s, iV_i, cs0, cs1, cs2, cs3, cs4, dn_nil, kd_si, kd_sl, kd_sw, mr_si, mr_sl, mr_sw, ml_si, ml_sw, mi_sl, mk_277 H, mk_278 H, mk_279 H, mk_280 H, mk_281 H, mk_282 H, mk_283 H, mk_284 H, mk_285 H, mk_286 H, mk_287 H, mk_288 H, mk_289 H, mr_1 H, mr_11 H, mr_12 H, mr_13 H, mr_14 H, mr_15 H, mr_16 H, mr_17 H, mr_18 H, mr_19 H, mr_24 H, mr_25 H, m_154 H, ck, m_138y H hl, ↓if_neg z_1, if_neg z_1, m_136, ca, ↓if_true, if_true, m_156' (MO_si H), si_si, retX_int]
  · rcases inF_or b 1 9999 with cb | cb
    · simp -implicitDefEqProofs only [D_27_0, k_27_0, D_27_14, k_27_14, D_27_47, k_27_47, R_27, v_aload_n, v_iload_n, v_callV2, aft_v, aft_n, g_if_ne, g_iconst, g_ireturn, g_sipush, v_callS3, g_if_eq, v_iload, g_bipush, entL, getL, setL, kL_i, kL_r, isI_s, isR_s, isJ_s, gV_s, iV_i, cs0, cs1, cs2, cs3, cs4, dn_nil, kd_si, kd_sl, kd_sw, mr_si, mr_sl, mr_sw, ml_si, ml_sw, mi_sl, mk_277 H, mk_278 H, mk_279 H, mk_280 H, mk_281 H, mk_282 H, mk_283 H, mk_284 H, mk_285 H, mk_286 H, mk_287 H, mk_288 H, mk_289 H, mr_1 H, mr_11 H, mr_12 H, mr_13 H, mr_14 H, mr_15 H, mr_16 H, mr_17 H, mr_18 H, mr_19 H, mr_24 H, mr_25 H, m_154 H, ck, m_138y H hl, ↓if_neg z_1, if_neg z_1, m_136, ca, cb, ↓if_true, if_true, m_156' (MO_si H), si_si, retX_int]
    · have cc : inF c 1 99 = 0 := by
        rcases cr with q | q | q
        · rw [ca] at q; exact absurd q z_1
        · rw [cb] at q; exact absurd q z_1
        · exact q
      simp -implicitDefEqProofs only [D_27_0, k_27_0, D_27_14, k_27_14, D_27_47, k_27_47, R_27, v_aload_n, v_iload_n, v_callV2, aft_v, aft_n, g_if_ne, g_iconst, g_ireturn, g_sipush, v_callS3, g_if_eq, v_iload, g_bipush, entL, getL, setL, kL_i, kL_r, isI_s, isR_s, isJ_s, gV_s, iV_i, cs0, cs1, cs2, cs3, cs4, dn_nil, kd_si, kd_sl, kd_sw, mr_si, mr_sl, mr_sw, ml_si, ml_sw, mi_sl, mk_277 H, mk_278 H, mk_279 H, mk_280 H, mk_281 H, mk_282 H, mk_283 H, mk_284 H, mk_285 H, mk_286 H, mk_287 H, mk_288 H, mk_289 H, mr_1 H, mr_11 H, mr_12 H, mr_13 H, mr_14 H, mr_15 H, mr_16 H, mr_17 H, mr_18 H, mr_19 H, mr_24 H, mr_25 H, m_154 H, ck, m_138y H hl, ↓if_neg z_1, if_neg z_1, m_136, ca, cb, cc, ↓if_true, if_true, m_156' (MO_si H), si_si, retX_int]
theorem m_27f {a b k c : Int32} {h : Mm} (H : MO h) (hl : ¬ h.mi 277 21 = 0) (ck : inF k 0 (h.mi 279 7 - 1) = 1) (ca : inF a 0 20000 = 1) (cb : inF b 1 9999 = 1) (cc : inF c 1 99 = 1) (h9 : h.mi 283 9 = 80) : dM PG 27 [.ref 277, .int a, .int b, .int k, .int c] h = some (.inl (some (.int 0)), h.si 277 0 1) := by
  rw [dM_of (Nat.le_of_ble_eq_true rfl)]
  simp -implicitDefEqProofs only [D_27_0, k_27_0, D_27_14, k_27_14, D_27_53, k_27_53, R_27, v_aload_n, v_iload_n, v_callV2, aft_v, aft_n, g_if_ne, g_iconst, g_ireturn, g_sipush, v_callS3, g_if_eq, v_iload, g_bipush, g_getfield, sv_a, rf_s, v_iaload, inI_0, g_istore, g_icmp_ne, entL, getL, setL, kL_i, kL_r, isI_s, isR_s, isJ_s, gV_s, iV_i, cs0, cs1, cs2, cs3, cs4, dn_nil, kd_si, kd_sl, kd_sw, mr_si, mr_sl, mr_sw, ml_si, ml_sw, mi_sl, mk_277 H, mk_278 H, mk_279 H, mk_280 H, mk_281 H, mk_282 H, mk_283 H, mk_284 H, mk_285 H, mk_286 H, mk_287 H, mk_288 H, mk_289 H, mr_1 H, mr_11 H, mr_12 H, mr_13 H, mr_14 H, mr_15 H, mr_16 H, mr_17 H, mr_18 H, mr_19 H, mr_24 H, mr_25 H, m_154 H, ck, m_138y H hl, ↓if_neg z_1, if_neg z_1, m_136, ca, cb, cc, in_9, ix_9, mi_sa k283, h9, ↓if_true, if_true, m_156' (MO_si H), si_si, retX_int]
theorem m_27y {i nk u : Nat} {a b k c : Int32} (hi : i < 80) (hnk : nk ≤ 4) (hu : u ≤ 8) {h : Mm} (H : MO h) (hl : ¬ h.mi 277 21 = 0) (ck : inF k 0 (h.mi 279 7 - 1) = 1) (ca : inF a 0 20000 = 1) (cb : inF b 1 9999 = 1) (cc : inF c 1 99 = 1) (h9 : h.mi 283 9 = Int32.ofNat i) (h7 : h.mi 279 7 = Int32.ofNat nk) (h20 : h.mi 277 20 = Int32.ofNat u) (hz : ¬ 2 * b.toInt64 = 0) : dM PG 27 [.ref 277, .int a, .int b, .int k, .int c] h = some (.inl (some (.int (Int32.ofNat i))), h.chM u (aiF (h.mi 283) (h.mi 279) i nk (wgF a.toInt64 b.toInt64 (h.mi 279 0)) k c)) := by
  rw [dM_of (Nat.le_of_ble_eq_true rfl)]
  have z : ¬ Int32.ofNat i = 80 := by
    show ¬ Int32.ofNat i = Int32.ofNat 80
    exact i32_ne (by omega) (by omega) (by omega)
  have b_1 : inb (Int32.ofNat (208 + i)) 1168 = true := inb_nat (by omega) (by decide)
  have n_1 : (Int32.ofNat (208 + i)).toNatClampNeg = 208 + i := i32_nat (by omega)
  generalize hw : wgF a.toInt64 b.toInt64 (h.mi 279 0) = w
  have gw : ∀ h', dM PG 163 [.long a.toInt64, .long b.toInt64, .int (h.mi 279 0)] h' = some (.inl (some (.int w)), h') := fun h' => by rw [← hw]; exact m_163 hz
  simp -implicitDefEqProofs only [D_27_0, k_27_0, D_27_14, k_27_14, D_27_53, k_27_53, D_27_75, k_27_75, R_27, v_aload_n, v_iload_n, v_callV2, aft_v, aft_n, g_if_ne, g_iconst, g_ireturn, g_sipush, v_callS3, g_if_eq, v_iload, g_bipush, g_getfield, sv_a, rf_s, v_iaload, inI_0, g_istore, g_icmp_ne, v_callV1, g_iadd, g_i2l, v_iastore, wrI_0, entL, getL, setL, kL_i, kL_r, isI_s, isR_s, isJ_s, gV_s, iV_i, cs0, cs1, cs2, cs3, cs4, dn_nil, kd_si, kd_sl, kd_sw, mr_si, mr_sl, mr_sw, ml_si, ml_sw, mi_sl, mk_277 H, mk_278 H, mk_279 H, mk_280 H, mk_281 H, mk_282 H, mk_283 H, mk_284 H, mk_285 H, mk_286 H, mk_287 H, mk_288 H, mk_289 H, mr_1 H, mr_11 H, mr_12 H, mr_13 H, mr_14 H, mr_15 H, mr_16 H, mr_17 H, mr_18 H, mr_19 H, mr_24 H, mr_25 H, m_154 H, ck, m_138y H hl, ↓if_neg z_1, if_neg z_1, m_136, ca, cb, cc, in_9, ix_9, mi_sa k283, h9, ↓if_neg z, if_neg z, m_157c hu H h20, ch_k, ch_r, ch_9, ip_0, ix_0, gw, la_208, b_1, n_1, ch_si]
  refine lp (n := 4) (I := fun _ _ => True) (h := fun S => h.chM u S) (f := aiS k c i) (L := fun j S tl => some (.ref 277) :: some (.int a) :: some (.int b) :: some (.int k) :: some (.int c) :: some (.int (Int32.ofNat i)) :: some (.int (Int32.ofNat j)) :: tl) (r := fun S => some (.inl (some (.int (Int32.ofNat i))), h.chM u (zu (zu (zu (zu S (288 + i) (kbF S (h.mi 279) i nk)) (48 + i) 0) (128 + i) (-1)) 9 (zu (zu (zu S (288 + i) (kbF S (h.mi 279) i nk)) (48 + i) 0) (128 + i) (-1) 9 + 1)))) ?_ ?_ 4 0 (zu (h.mi 283) (208 + i) w) [] (by omega) trivial
  · intro j S tl hj _
    refine ⟨trivial, tl, ?_⟩
    have z4 : ¬ (4 : Int32) ≤ Int32.ofNat j := by
      show ¬ Int32.ofNat 4 ≤ Int32.ofNat j
      rw [i32_le (by omega) (by omega)]; omega
    have s1 : Int32.ofNat (j) + 1 = Int32.ofNat (j + 1) := i32_add (b := 1)
    have b_2 : inb (Int32.ofNat (368 + 4 * i + j)) 1168 = true := inb_nat (by omega) (by decide)
    have n_2 : (Int32.ofNat (368 + 4 * i + j)).toNatClampNeg = 368 + 4 * i + j := i32_nat (by omega)
    unfold aiS
    rw [D_27_106]
    by_cases d : Int32.ofNat j = k
    · simp -implicitDefEqProofs only [D_27_0, k_27_0, D_27_14, k_27_14, D_27_47, k_27_47, D_27_53, k_27_53, D_27_75, k_27_75, k_27_106, D_27_138, k_27_138, D_27_139, k_27_139, D_27_146, k_27_146, R_27, v_aload_n, v_iload_n, v_callV2, aft_v, aft_n, g_if_ne, g_iconst, g_ireturn, g_sipush, v_callS3, g_if_eq, v_iload, g_bipush, g_getfield, sv_a, rf_s, v_iaload, inI_0, g_istore, g_icmp_ne, v_callV1, g_iadd, g_i2l, v_iastore, wrI_0, g_icmp_ge, g_imul, g_goto, v_iinc, g_dup2, entL, getL, setL, kL_i, kL_r, isI_s, isR_s, isJ_s, gV_s, iV_i, cs0, cs1, cs2, cs3, cs4, dn_nil, kd_si, kd_sl, kd_sw, mr_si, mr_sl, mr_sw, ml_si, ml_sw, mi_sl, mk_277 H, mk_278 H, mk_279 H, mk_280 H, mk_281 H, mk_282 H, mk_283 H, mk_284 H, mk_285 H, mk_286 H, mk_287 H, mk_288 H, mk_289 H, mr_1 H, mr_11 H, mr_12 H, mr_13 H, mr_14 H, mr_15 H, mr_16 H, mr_17 H, mr_18 H, mr_19 H, mr_24 H, mr_25 H, ch_k, ch_r, ↓if_neg z4, if_neg z4, lm_4, la_368, i32_add, ↓if_pos d, if_pos d, b_2, n_2, ch_si, s1]
    · simp -implicitDefEqProofs only [D_27_0, k_27_0, D_27_14, k_27_14, D_27_47, k_27_47, D_27_53, k_27_53, D_27_75, k_27_75, k_27_106, D_27_138, k_27_138, D_27_139, k_27_139, D_27_146, k_27_146, R_27, v_aload_n, v_iload_n, v_callV2, aft_v, aft_n, g_if_ne, g_iconst, g_ireturn, g_sipush, v_callS3, g_if_eq, v_iload, g_bipush, g_getfield, sv_a, rf_s, v_iaload, inI_0, g_istore, g_icmp_ne, v_callV1, g_iadd, g_i2l, v_iastore, wrI_0, g_icmp_ge, g_imul, g_goto, v_iinc, g_dup2, entL, getL, setL, kL_i, kL_r, isI_s, isR_s, isJ_s, gV_s, iV_i, cs0, cs1, cs2, cs3, cs4, dn_nil, kd_si, kd_sl, kd_sw, mr_si, mr_sl, mr_sw, ml_si, ml_sw, mi_sl, mk_277 H, mk_278 H, mk_279 H, mk_280 H, mk_281 H, mk_282 H, mk_283 H, mk_284 H, mk_285 H, mk_286 H, mk_287 H, mk_288 H, mk_289 H, mr_1 H, mr_11 H, mr_12 H, mr_13 H, mr_14 H, mr_15 H, mr_16 H, mr_17 H, mr_18 H, mr_19 H, mr_24 H, mr_25 H, ch_k, ch_r, ↓if_neg z4, if_neg z4, lm_4, la_368, i32_add, ↓if_neg d, if_neg d, b_2, n_2, ch_si, s1]
  · intro S tl _
    have z4 : (4 : Int32) ≤ Int32.ofNat 4 := by decide
    have b_2 : inb (Int32.ofNat (288 + i)) 1168 = true := inb_nat (by omega) (by decide)
    have n_2 : (Int32.ofNat (288 + i)).toNatClampNeg = 288 + i := i32_nat (by omega)
    have b_3 : inb (Int32.ofNat (48 + i)) 1168 = true := inb_nat (by omega) (by decide)
    have n_3 : (Int32.ofNat (48 + i)).toNatClampNeg = 48 + i := i32_nat (by omega)
    have b_4 : inb (Int32.ofNat (128 + i)) 1168 = true := inb_nat (by omega) (by decide)
    have n_4 : (Int32.ofNat (128 + i)).toNatClampNeg = 128 + i := i32_nat (by omega)
    have g := m_164 (s := 283) (p := 279) hi hnk (h := h.chM u S) (mk_283 H) (mk_279 H) (by rw [ch_9, h7])
    rw [ch_3, ch_9] at g
    rw [D_27_106]
    simp -implicitDefEqProofs only [D_27_0, k_27_0, D_27_14, k_27_14, D_27_47, k_27_47, D_27_53, k_27_53, D_27_75, k_27_75, k_27_106, D_27_138, k_27_138, D_27_139, k_27_139, D_27_146, k_27_146, R_27, v_aload_n, v_iload_n, v_callV2, aft_v, aft_n, g_if_ne, g_iconst, g_ireturn, g_sipush, v_callS3, g_if_eq, v_iload, g_bipush, g_getfield, sv_a, rf_s, v_iaload, inI_0, g_istore, g_icmp_ne, v_callV1, g_iadd, g_i2l, v_iastore, wrI_0, g_icmp_ge, g_imul, g_goto, v_iinc, g_dup2, entL, getL, setL, kL_i, kL_r, isI_s, isR_s, isJ_s, gV_s, iV_i, cs0, cs1, cs2, cs3, cs4, dn_nil, kd_si, kd_sl, kd_sw, mr_si, mr_sl, mr_sw, ml_si, ml_sw, mi_sl, mk_277 H, mk_278 H, mk_279 H, mk_280 H, mk_281 H, mk_282 H, mk_283 H, mk_284 H, mk_285 H, mk_286 H, mk_287 H, mk_288 H, mk_289 H, mr_1 H, mr_11 H, mr_12 H, mr_13 H, mr_14 H, mr_15 H, mr_16 H, mr_17 H, mr_18 H, mr_19 H, mr_24 H, mr_25 H, ch_k, ch_r, ch_3, ↓if_pos z4, if_pos z4, la_288, la_48, la_128, b_2, n_2, b_3, n_3, b_4, n_4, g, in_9, ix_9, ch_si, retX_int]
theorem R_167 : PG.2.1 167 = (some .int) := rfl
def lvS (k : Nat) (S : Nat → Int32) : Nat → Int32 := zu S (38 + k) (S (38 + k + 1))
def lvF (S : Nat → Int32) (ix pc : Nat) : Nat → Int32 := fl lvS (pc - 1 - ix) ix (zu S 7 (Int32.ofNat (pc - 1)))
theorem m_167 {ix pc : Nat} (hpc : pc ≤ 10) (hix : ix < pc) {h : Mm} (H : MO h) (h7 : h.mi 283 7 = Int32.ofNat pc) : dM PG 167 [.ref 277, .int (Int32.ofNat ix)] h = some (.inl (some (.int (h.mi 283 (38 + ix)))), h.sw 283 (lvF (h.mi 283) ix pc)) := by
  rw [dM_of (Nat.le_of_ble_eq_true rfl)]
  have b_1 : inb (Int32.ofNat (38 + ix)) 1168 = true := inb_nat (by omega) (by decide)
  have n_1 : (Int32.ofNat (38 + ix)).toNatClampNeg = 38 + ix := i32_nat (by omega)
  have p1 : Int32.ofNat pc - 1 = Int32.ofNat (pc - 1) := i32_pred (by omega)
  simp -implicitDefEqProofs only [D_167_0, k_167_0, v_aload_n, g_getfield, sv_a, rf_s, g_bipush, v_iload_n, g_iadd, v_iaload, inI_0, g_istore_n, g_dup2, g_iconst, g_isub, v_iastore, wrI_0, entL, getL, setL, kL_i, kL_r, isI_s, isR_s, isJ_s, gV_s, iV_i, cs0, cs1, cs2, cs3, cs4, dn_nil, kd_si, kd_sl, kd_sw, mr_si, mr_sl, mr_sw, ml_si, ml_sw, mi_sl, mk_277 H, mk_278 H, mk_279 H, mk_280 H, mk_281 H, mk_282 H, mk_283 H, mk_284 H, mk_285 H, mk_286 H, mk_287 H, mk_288 H, mk_289 H, mr_1 H, mr_11 H, mr_12 H, mr_13 H, mr_14 H, mr_15 H, mr_16 H, mr_17 H, mr_18 H, mr_19 H, mr_24 H, mr_25 H, la_38, b_1, n_1, in_7, ix_7, h7, p1, si_sw (a := 283)]
  refine lp (n := pc - 1) (I := fun k S => S 7 = Int32.ofNat (pc - 1)) (h := fun S => h.sw 283 S) (f := lvS) (L := fun k S tl => some (.ref 277) :: some (.int (Int32.ofNat ix)) :: some (.int (h.mi 283 (38 + ix))) :: some (.int (Int32.ofNat k)) :: tl) (r := fun S => some (.inl (some (.int (h.mi 283 (38 + ix)))), h.sw 283 S)) ?_ ?_ (pc - 1 - ix) ix (zu (h.mi 283) 7 (Int32.ofNat (pc - 1))) [] (by omega) zu_same
  · intro k S tl hk hS
    refine ⟨by unfold lvS; rw [zu_o (by omega)]; exact hS, tl, ?_⟩
    have e : ¬ Int32.ofNat (pc - 1) ≤ Int32.ofNat (k) := by rw [i32_le (by omega) (by omega)]; omega
    have s1 : Int32.ofNat (k) + 1 = Int32.ofNat (k + 1) := i32_add (b := 1)
    have s2 : Int32.ofNat (38 + k) + 1 = Int32.ofNat (38 + k + 1) := i32_add (b := 1)
    have b_2 : inb (Int32.ofNat (38 + k)) 1168 = true := inb_nat (by omega) (by decide)
    have n_2 : (Int32.ofNat (38 + k)).toNatClampNeg = 38 + k := i32_nat (by omega)
    have b_3 : inb (Int32.ofNat (38 + k + 1)) 1168 = true := inb_nat (by omega) (by decide)
    have n_3 : (Int32.ofNat (38 + k + 1)).toNatClampNeg = 38 + k + 1 := i32_nat (by omega)
    unfold lvS
    rw [D_167_23]
    simp -implicitDefEqProofs only [D_167_0, k_167_0, k_167_23, D_167_60, k_167_60, R_167, v_aload_n, g_getfield, sv_a, rf_s, g_bipush, v_iload_n, g_iadd, v_iaload, inI_0, g_istore_n, g_dup2, g_iconst, g_isub, v_iastore, wrI_0, g_icmp_ge, v_iinc, g_goto, g_ireturn, entL, getL, setL, kL_i, kL_r, isI_s, isR_s, isJ_s, gV_s, iV_i, cs0, cs1, cs2, cs3, cs4, dn_nil, kd_si, kd_sl, kd_sw, mr_si, mr_sl, mr_sw, ml_si, ml_sw, mi_sl, mk_277 H, mk_278 H, mk_279 H, mk_280 H, mk_281 H, mk_282 H, mk_283 H, mk_284 H, mk_285 H, mk_286 H, mk_287 H, mk_288 H, mk_289 H, mr_1 H, mr_11 H, mr_12 H, mr_13 H, mr_14 H, mr_15 H, mr_16 H, mr_17 H, mr_18 H, mr_19 H, mr_24 H, mr_25 H, in_7, ix_7, mi_sw, hS, ↓if_neg e, if_neg e, la_38, s2, b_2, n_2, b_3, n_3, si_sw (a := 283), sw_sw, s1]
  · intro S tl hS
    have e : Int32.ofNat (pc - 1) ≤ Int32.ofNat (pc - 1) := by rw [i32_le (by omega) (by omega)]; omega
    rw [D_167_23]
    simp -implicitDefEqProofs only [D_167_0, k_167_0, k_167_23, D_167_60, k_167_60, R_167, v_aload_n, g_getfield, sv_a, rf_s, g_bipush, v_iload_n, g_iadd, v_iaload, inI_0, g_istore_n, g_dup2, g_iconst, g_isub, v_iastore, wrI_0, g_icmp_ge, v_iinc, g_goto, g_ireturn, entL, getL, setL, kL_i, kL_r, isI_s, isR_s, isJ_s, gV_s, iV_i, cs0, cs1, cs2, cs3, cs4, dn_nil, kd_si, kd_sl, kd_sw, mr_si, mr_sl, mr_sw, ml_si, ml_sw, mi_sl, mk_277 H, mk_278 H, mk_279 H, mk_280 H, mk_281 H, mk_282 H, mk_283 H, mk_284 H, mk_285 H, mk_286 H, mk_287 H, mk_288 H, mk_289 H, mr_1 H, mr_11 H, mr_12 H, mr_13 H, mr_14 H, mr_15 H, mr_16 H, mr_17 H, mr_18 H, mr_19 H, mr_24 H, mr_25 H, in_7, ix_7, mi_sw, hS, ↓if_pos e, if_pos e, retX_int]
theorem m_167c {ix pc u : Nat} (hpc : pc ≤ 10) (hix : ix < pc) {h : Mm} (H : MO h) {S : Nat → Int32} (h7 : S 7 = Int32.ofNat pc) : dM PG 167 [.ref 277, .int (Int32.ofNat ix)] (h.chM u S) = some (.inl (some (.int (S (38 + ix)))), h.chM u (lvF S ix pc)) := by
  have g := m_167 hpc hix (h := h.chM u S) H (by rw [ch_3, h7])
  rw [ch_3, ch_sw] at g
  exact g
theorem R_29 : PG.2.1 29 = (some .int) := rfl
theorem m_29n {i p : Int32} {h : Mm} (H : MO h) (hl : h.mi 277 21 = 0) (c : inF i 0 (h.mi 283 7 - 1) = 0) : dM PG 29 [.ref 277, .int i, .int p] h = some (.inl (some (.int 0)), h.si 277 0 1) := by
  rw [dM_of (Nat.le_of_ble_eq_true rfl)]
  simp -implicitDefEqProofs only [D_29_0, k_29_0, D_29_48, k_29_48, D_29_49, k_29_49, R_29, v_aload_n, v_iload_n, g_iconst, g_getfield, sv_a, rf_s, g_bipush, v_iaload, inI_0, g_isub, v_callS3, aft_v, aft_n, g_if_eq, g_sipush, g_iadd, v_callV3, g_goto, v_callV2, g_if_ne, g_ireturn, entL, getL, setL, kL_i, kL_r, isI_s, isR_s, isJ_s, gV_s, iV_i, cs0, cs1, cs2, cs3, cs4, dn_nil, kd_si, kd_sl, kd_sw, mr_si, mr_sl, mr_sw, ml_si, ml_sw, mi_sl, mk_277 H, mk_278 H, mk_279 H, mk_280 H, mk_281 H, mk_282 H, mk_283 H, mk_284 H, mk_285 H, mk_286 H, mk_287 H, mk_288 H, mk_289 H, mr_1 H, mr_11 H, mr_12 H, mr_13 H, mr_14 H, mr_15 H, mr_16 H, mr_17 H, mr_18 H, mr_19 H, mr_24 H, mr_25 H, in_7, ix_7, m_136, c, ↓if_true, if_true, m_138n H hl, retX_int]
theorem m_29x {i p : Int32} {h : Mm} (H : MO h) (hl : ¬ h.mi 277 21 = 0) (c : inF i 0 (h.mi 283 7 - 1) = 0) : dM PG 29 [.ref 277, .int i, .int p] h = some (.inl (some (.int 0)), h.si 277 0 2) := by
  rw [dM_of (Nat.le_of_ble_eq_true rfl)]
  simp -implicitDefEqProofs only [D_29_0, k_29_0, D_29_48, k_29_48, D_29_49, k_29_49, R_29, v_aload_n, v_iload_n, g_iconst, g_getfield, sv_a, rf_s, g_bipush, v_iaload, inI_0, g_isub, v_callS3, aft_v, aft_n, g_if_eq, g_sipush, g_iadd, v_callV3, g_goto, v_callV2, g_if_ne, g_ireturn, entL, getL, setL, kL_i, kL_r, isI_s, isR_s, isJ_s, gV_s, iV_i, cs0, cs1, cs2, cs3, cs4, dn_nil, kd_si, kd_sl, kd_sw, mr_si, mr_sl, mr_sw, ml_si, ml_sw, mi_sl, mk_277 H, mk_278 H, mk_279 H, mk_280 H, mk_281 H, mk_282 H, mk_283 H, mk_284 H, mk_285 H, mk_286 H, mk_287 H, mk_288 H, mk_289 H, mr_1 H, mr_11 H, mr_12 H, mr_13 H, mr_14 H, mr_15 H, mr_16 H, mr_17 H, mr_18 H, mr_19 H, mr_24 H, mr_25 H, in_7, ix_7, m_136, c, ↓if_true, if_true, m_138x H hl, retX_int]
theorem m_29p {ix it : Nat} {p : Int32} (hix : ix < 10) (hit : it < 80) {h : Mm} (H : MO h) (hl : ¬ h.mi 277 21 = 0) (c : inF (Int32.ofNat ix) 0 (h.mi 283 7 - 1) = 1) (hp : h.mi 283 (38 + ix) = Int32.ofNat it) (g : dM PG 166 [.ref 277, .int (h.mi 283 (288 + it)), .int p] h = some (.inl (some (.int 0)), h)) : dM PG 29 [.ref 277, .int (Int32.ofNat ix), .int p] h = some (.inl (some (.int 0)), h.si 277 0 2) := by
  rw [dM_of (Nat.le_of_ble_eq_true rfl)]
  have b_1 : inb (Int32.ofNat (38 + ix)) 1168 = true := inb_nat (by omega) (by decide)
  have n_1 : (Int32.ofNat (38 + ix)).toNatClampNeg = 38 + ix := i32_nat (by omega)
  have b_2 : inb (Int32.ofNat (288 + it)) 1168 = true := inb_nat (by omega) (by decide)
  have n_2 : (Int32.ofNat (288 + it)).toNatClampNeg = 288 + it := i32_nat (by omega)
  simp -implicitDefEqProofs only [D_29_0, k_29_0, D_29_48, k_29_48, D_29_49, k_29_49, R_29, v_aload_n, v_iload_n, g_iconst, g_getfield, sv_a, rf_s, g_bipush, v_iaload, inI_0, g_isub, v_callS3, aft_v, aft_n, g_if_eq, g_sipush, g_iadd, v_callV3, g_goto, v_callV2, g_if_ne, g_ireturn, entL, getL, setL, kL_i, kL_r, isI_s, isR_s, isJ_s, gV_s, iV_i, cs0, cs1, cs2, cs3, cs4, dn_nil, kd_si, kd_sl, kd_sw, mr_si, mr_sl, mr_sw, ml_si, ml_sw, mi_sl, mk_277 H, mk_278 H, mk_279 H, mk_280 H, mk_281 H, mk_282 H, mk_283 H, mk_284 H, mk_285 H, mk_286 H, mk_287 H, mk_288 H, mk_289 H, mr_1 H, mr_11 H, mr_12 H, mr_13 H, mr_14 H, mr_15 H, mr_16 H, mr_17 H, mr_18 H, mr_19 H, mr_24 H, mr_25 H, in_7, ix_7, m_136, c, ↓if_neg z_1, if_neg z_1, la_38, b_1, n_1, hp, la_288, b_2, n_2, g, ↓if_true, if_true, m_138x H hl, retX_int]
theorem m_29y {ix it k p pc n m u : Nat} (hpc : pc ≤ 10) (hix : ix < pc) (hit : it < 80) (hk : k < 4) (hp3 : p < 3) (hn : n < 80) (hm : m ≤ 80) (hu : u ≤ 8) {h : Mm} (H : MO h) (hl : ¬ h.mi 277 21 = 0) (c : inF (Int32.ofNat ix) 0 (h.mi 283 7 - 1) = 1) (h7 : h.mi 283 7 = Int32.ofNat pc) (hp : h.mi 283 (38 + ix) = Int32.ofNat it) (hkd : h.mi 283 (288 + it) = Int32.ofNat k) (g : dM PG 166 [.ref 277, .int (Int32.ofNat k), .int (Int32.ofNat p)] h = some (.inl (some (.int 1)), h)) (h20 : h.mi 277 20 = Int32.ofNat u) (l8 : lvF (h.mi 283) ix pc 8 = Int32.ofNat n) (l9 : lvF (h.mi 283) ix pc 9 = Int32.ofNat m) (lk : lvF (h.mi 283) ix pc (288 + it) = Int32.ofNat k) : dM PG 29 [.ref 277, .int (Int32.ofNat ix), .int (Int32.ofNat p)] h = some (.inl (some (.int (if putV (lvF (h.mi 283) ix pc) k p it n = -1 then -1 else putF (h.mi 279 6) (lvF (h.mi 283) ix pc) k p it n m (848 + n)))), h.chM u (putF (h.mi 279 6) (lvF (h.mi 283) ix pc) k p it n m)) := by
  rw [dM_of (Nat.le_of_ble_eq_true rfl)]
  have b_1 : inb (Int32.ofNat (38 + ix)) 1168 = true := inb_nat (by omega) (by decide)
  have n_1 : (Int32.ofNat (38 + ix)).toNatClampNeg = 38 + ix := i32_nat (by omega)
  have b_2 : inb (Int32.ofNat (288 + it)) 1168 = true := inb_nat (by omega) (by decide)
  have n_2 : (Int32.ofNat (288 + it)).toNatClampNeg = 288 + it := i32_nat (by omega)
  have b_3 : inb (Int32.ofNat (848 + n)) 1168 = true := inb_nat (by omega) (by decide)
  have n_3 : (Int32.ofNat (848 + n)).toNatClampNeg = 848 + n := i32_nat (by omega)
  have q := m_168 (s := 283) hit hk hp3 hn hm (h := h.chM u (lvF (h.mi 283) ix pc)) H (by decide) (mk_283 H) (by rw [ch_3, l8]) (by rw [ch_3, l9]) (by rw [ch_3, lk])
  rw [ch_3, ch_9, ch_sw] at q
  by_cases d : putV (lvF (h.mi 283) ix pc) k p it n = -1
  · simp -implicitDefEqProofs only [D_29_0, k_29_0, D_29_48, k_29_48, D_29_49, k_29_49, D_29_57, k_29_57, D_29_85, k_29_85, D_29_95, k_29_95, R_29, v_aload_n, v_iload_n, g_iconst, g_getfield, sv_a, rf_s, g_bipush, v_iaload, inI_0, g_isub, v_callS3, aft_v, aft_n, g_if_eq, g_sipush, g_iadd, v_callV3, g_goto, v_callV2, g_if_ne, g_ireturn, v_callV1, v_callV4, g_istore_n, g_icmp_ne, entL, getL, setL, kL_i, kL_r, isI_s, isR_s, isJ_s, gV_s, iV_i, cs0, cs1, cs2, cs3, cs4, dn_nil, kd_si, kd_sl, kd_sw, mr_si, mr_sl, mr_sw, ml_si, ml_sw, mi_sl, mk_277 H, mk_278 H, mk_279 H, mk_280 H, mk_281 H, mk_282 H, mk_283 H, mk_284 H, mk_285 H, mk_286 H, mk_287 H, mk_288 H, mk_289 H, mr_1 H, mr_11 H, mr_12 H, mr_13 H, mr_14 H, mr_15 H, mr_16 H, mr_17 H, mr_18 H, mr_19 H, mr_24 H, mr_25 H, in_7, ix_7, m_136, c, ↓if_neg z_1, if_neg z_1, la_38, b_1, n_1, hp, la_288, b_2, n_2, hkd, g, m_138y H hl, m_157c hu H h20, ch_k, ch_r, m_167c hpc hix H h7, q, ↓if_pos d, if_pos d, retX_int]
  · have e : putV (lvF (h.mi 283) ix pc) k p it n = Int32.ofNat n := by
      unfold putV at d ⊢
      split
      · rename_i w; rw [if_pos w] at d; exact absurd rfl d
      · rfl
    have e2 : ¬ Int32.ofNat n = -1 := oN_s (by omega)
    rw [e] at q
    rw [if_neg d]
    simp -implicitDefEqProofs only [D_29_0, k_29_0, D_29_48, k_29_48, D_29_49, k_29_49, D_29_57, k_29_57, D_29_85, k_29_85, D_29_95, k_29_95, R_29, v_aload_n, v_iload_n, g_iconst, g_getfield, sv_a, rf_s, g_bipush, v_iaload, inI_0, g_isub, v_callS3, aft_v, aft_n, g_if_eq, g_sipush, g_iadd, v_callV3, g_goto, v_callV2, g_if_ne, g_ireturn, v_callV1, v_callV4, g_istore_n, g_icmp_ne, entL, getL, setL, kL_i, kL_r, isI_s, isR_s, isJ_s, gV_s, iV_i, cs0, cs1, cs2, cs3, cs4, dn_nil, kd_si, kd_sl, kd_sw, mr_si, mr_sl, mr_sw, ml_si, ml_sw, mi_sl, mk_277 H, mk_278 H, mk_279 H, mk_280 H, mk_281 H, mk_282 H, mk_283 H, mk_284 H, mk_285 H, mk_286 H, mk_287 H, mk_288 H, mk_289 H, mr_1 H, mr_11 H, mr_12 H, mr_13 H, mr_14 H, mr_15 H, mr_16 H, mr_17 H, mr_18 H, mr_19 H, mr_24 H, mr_25 H, in_7, ix_7, m_136, c, ↓if_neg z_1, if_neg z_1, la_38, b_1, n_1, hp, la_288, b_2, n_2, hkd, g, m_138y H hl, m_157c hu H h20, ch_k, ch_r, m_167c hpc hix H h7, q, ↓if_neg e2, if_neg e2, ch_3, la_848, b_3, n_3, retX_int]
