-- ===== load: what is made =====
def tkN (h : Mm) (x n : Nat) : Mm := (((((h.si x 2 0).si x 3 0).si x 4 0).si x 5 0).sr x 0 (some 201)).si x 1 (Int32.ofNat n)
theorem R_290 : PG.2.1 290 = none := rfl
theorem m_290 {h : Mm} {x n : Nat} (hn : n ≤ 1500) (hk : h.kd x = some (.inl 6)) (kb : h.kd 201 = some (.inr (.byte, 1500))) : dM PG 290 [.ref x, .ref 201, .int (Int32.ofNat n)] h = some (.inl none, tkN h x n) := by
  have k' : (((((h.si x 2 0).si x 3 0).si x 4 0).si x 5 0).sr x 0 (some 201)).kd x = some (.inl 6) := hk
  have kb' : (((((h.si x 2 0).si x 3 0).si x 4 0).si x 5 0).sr x 0 (some 201)).kd 201 = some (.inr (.byte, 1500)) := kb
  have mn : (if (Int32.ofNat 1500) < Int32.ofNat n then (Int32.ofNat 1500) else Int32.ofNat n) = Int32.ofNat n := by
    rw [if_neg]
    rw [i32_lt (by decide) (by omega)]
    omega
  rw [dM_of (Nat.le_of_ble_eq_true rfl)]
  simp -implicitDefEqProofs only [D_290_0, k_290_0, R_290, v_aload_n, g_obj, g_iconst, g_put_i, g_put_a, v_iload_n, v_alen, isA_0, lnA_0, g_min, g_return, entL, getL, setL, kL_i, kL_r, isI_s, isR_s, isJ_s, gV_s, iV_i, cs0, cs1, cs2, cs3, cs4, dn_nil, kd_si, kd_sl, kd_sw, mr_si, mr_sl, mr_sw, ml_si, ml_sw, mi_sl, hk, kb, k', kb', mn]
  rfl
def prN (h : Mm) (x t d c : Nat) : Mm := (((((((((h.si x 3 0).si x 4 0).si x 5 (-1)).si x 6 0).si x 7 0).si x 8 0).sr x 0 (some t)).sr x 1 (some d)).sr x 2 (some c))
theorem g_put_z0 {P : Pg} {y fin nx a b w : Nat} {v : Value} {rs : List Rw} {L : Lc} {st : List Value} {h : Mm} {ix x : Nat} (hk : h.kd x = some (.inl a)) : dn P y ((.putfield ix, nx, a, b, v, .boolean, w) :: rs) fin L (.int 0 :: .ref x :: st) h = dn P y rs fin L st (h.si x b 0) := g_put_z hk (Or.inl rfl)
theorem R_291 : PG.2.1 291 = none := rfl
theorem m_291 {h : Mm} {x t d c : Nat} (hk : h.kd x = some (.inl 3)) : dM PG 291 [.ref x, .ref t, .ref d, .ref c] h = some (.inl none, prN h x t d c) := by
  rw [dM_of (Nat.le_of_ble_eq_true rfl)]
  simp -implicitDefEqProofs only [D_291_0, k_291_0, R_291, v_aload_n, g_obj, g_iconst, g_put_z, g_put_i, g_put_o, g_return, entL, getL, setL, kL_i, kL_r, isI_s, isR_s, isJ_s, gV_s, iV_i, cs0, cs1, cs2, cs3, cs4, dn_nil, kd_si, kd_sl, kd_sw, mr_si, mr_sl, mr_sw, ml_si, ml_sw, mi_sl, hk, kd_sr, g_put_z0]
  rfl
/-- the draft becomes the plan -/
def tdN (h : Mm) (u d b c : Nat) : Mm := ((((((h.sr 200 5 (some d)).sr 200 6 (some u)).sr 200 7 (some c)).sr 200 8 (some b)).si 200 4 1).si 200 9 0).si 200 11 0
theorem R_293 : PG.2.1 293 = none := rfl
theorem m_293 {h : Mm} {u d b c : Nat} (G : GO h u d b c) : dM PG 293 [.ref 200] h = some (.inl none, tdN h u d b c) := by
  obtain ⟨k0, -, r5, r6, r7, r8, -⟩ := G
  have q6 : (h.sr 200 5 (some d)).mr 200 6 = some d := r6
  have q7 : ((h.sr 200 5 (some d)).sr 200 6 (some u)).mr 200 7 = some b := r7
  have q8 : (((h.sr 200 5 (some d)).sr 200 6 (some u)).sr 200 7 (some c)).mr 200 8 = some c := r8
  have q7a : (((h.sr 200 5 (some d)).sr 200 6 (some u))).mr 200 8 = some c := r8
  rw [dM_of (Nat.le_of_ble_eq_true rfl)]
  simp -implicitDefEqProofs only [D_293_0, k_293_0, R_293, v_aload_n, g_getfield, sv_o, rf_s, g_getfieldS, g_astore_n, g_astore_nN, g_put_o, g_iconst, g_put_z, g_put_i, g_return, entL, getL, setL, kL_i, kL_r, isI_s, isR_s, isJ_s, gV_s, iV_i, cs0, cs1, cs2, cs3, cs4, dn_nil, kd_si, kd_sl, kd_sw, mr_si, mr_sl, mr_sw, ml_si, ml_sw, mi_sl, k0, kd_sr, r5, r6, q7, q7a, q8, g_put_z0, g_put_z1]
  rfl
theorem x_226 {E : String} : PG.2.2.1 226 E = none := rfl
theorem R_226 : PG.2.1 226 = (some .int) := rfl
theorem m_226x {n : Int32} {u d b c : Nat} {h : Mm} (G : GO h u d b c) (hn : n < 0 ∨ ¬ n ≤ h.mi 200 1) : dM PG 226 [.ref 200, .int n] h = some (.inr (exN 1), h.thr) := by
  obtain ⟨k0, -⟩ := G
  rw [dM_of (Nat.le_of_ble_eq_true rfl)]
  rcases hn with a | a
  · simp -implicitDefEqProofs only [D_226_0, k_226_0, D_226_12, k_226_12, D_226_22, k_226_22, D_226_90, k_226_90, R_226, v_iload_n, g_if_lt, v_aload_n, g_getfield, sv_i, rf_s, g_getfieldS, g_icmp_le, g_throw, g_iconst, g_put_i, g_new, g_dup_i, g_dup_r, sv_a, v_callI3, aft_v, aft_n, sv_o, v_callI4, g_astore_n, g_astore_nN, v_callV1, g_istore_n, g_if_ne, g_ireturn, entL, getL, setL, kL_i, kL_r, isI_s, isR_s, isJ_s, gV_s, iV_i, cs0, cs1, cs2, cs3, cs4, dn_nil, kd_si, kd_sl, kd_sw, mr_si, mr_sl, mr_sw, ml_si, ml_sw, mi_sl, k0, ↓if_pos a, if_pos a]
  · by_cases a0 : n < 0
    · simp -implicitDefEqProofs only [D_226_0, k_226_0, D_226_12, k_226_12, D_226_22, k_226_22, D_226_90, k_226_90, R_226, v_iload_n, g_if_lt, v_aload_n, g_getfield, sv_i, rf_s, g_getfieldS, g_icmp_le, g_throw, g_iconst, g_put_i, g_new, g_dup_i, g_dup_r, sv_a, v_callI3, aft_v, aft_n, sv_o, v_callI4, g_astore_n, g_astore_nN, v_callV1, g_istore_n, g_if_ne, g_ireturn, entL, getL, setL, kL_i, kL_r, isI_s, isR_s, isJ_s, gV_s, iV_i, cs0, cs1, cs2, cs3, cs4, dn_nil, kd_si, kd_sl, kd_sw, mr_si, mr_sl, mr_sw, ml_si, ml_sw, mi_sl, k0, ↓if_pos a0, if_pos a0]
    · simp -implicitDefEqProofs only [D_226_0, k_226_0, D_226_12, k_226_12, D_226_22, k_226_22, D_226_90, k_226_90, R_226, v_iload_n, g_if_lt, v_aload_n, g_getfield, sv_i, rf_s, g_getfieldS, g_icmp_le, g_throw, g_iconst, g_put_i, g_new, g_dup_i, g_dup_r, sv_a, v_callI3, aft_v, aft_n, sv_o, v_callI4, g_astore_n, g_astore_nN, v_callV1, g_istore_n, g_if_ne, g_ireturn, entL, getL, setL, kL_i, kL_r, isI_s, isR_s, isJ_s, gV_s, iV_i, cs0, cs1, cs2, cs3, cs4, dn_nil, kd_si, kd_sl, kd_sw, mr_si, mr_sl, mr_sw, ml_si, ml_sw, mi_sl, k0, ↓if_neg a0, if_neg a0, ↓if_neg a, if_neg a]
