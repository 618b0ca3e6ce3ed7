-- ===== a name's text is copied =====
theorem m_338s {h : Mm} {s v cap len mn : Nat} {c : Nat → Nat} (H : SBx h s v cap len c) (hm : mn ≤ cap) : dM PG 338 [.ref s, .int (Int32.ofNat mn)] h = some (.inl none, h) := by
  obtain ⟨k1, r0, k2, i1, i3, l1, l2, -⟩ := H
  have e : Int32.ofNat mn - Int32.ofNat cap ≤ 0 := by
    rw [Int32.le_iff_toInt_le, Int32.toInt_sub, i32_toInt (by omega), i32_toInt (by omega), show (0 : Int32).toInt = 0 from by decide]
    have : ((mn : Int) - (cap : Int)).bmod (2 ^ 32) = (mn : Int) - cap := Int.bmod_eq_of_le (by omega) (by omega)
    rw [this]; omega
  rw [dM_of (Nat.le_of_ble_eq_true rfl)]
  simp -implicitDefEqProofs only [D_338_0, k_338_0, D_338_38, k_338_38, R_338, v_aload_n, g_getfield, sv_a, rf_s, g_getfieldS, v_alen, isA_0, lnA_0, sv_b, g_ishr, g_istore_n, v_iload_n, g_isub, g_if_le, v_callV2, aft_v, aft_n, g_ishl, v_callS2, g_put_a, g_return, entL, getL, setL, kL_i, kL_r, isI_s, isR_s, isJ_s, gV_s, iV_i, cs0, cs1, cs2, cs3, cs4, dn_nil, kd_si, kd_sl, kd_sw, mr_si, mr_sl, mr_sw, ml_si, ml_sw, mi_sl, k1, r0, k2, i1, shr_0, ↓if_pos e, if_pos e]
theorem m_241s {h : Mm} {s v cap len x : Nat} {c : Nat → Nat} (H : SBx h s v cap len c) (hm : len + 1 ≤ cap) (hx : x < 128) : dM PG 241 [.ref s, .int (Int32.ofNat x)] h = some (.inl (some (.ref s)), (h.si s 3 (Int32.ofNat (len + 1))).si v len (Int32.ofNat x)) := by
  have g1 := m_338s H (mn := len + 1) hm
  have g2 := m_339 H
  have g3 := m_343 hx (h := h)
  obtain ⟨-, -, b8, -⟩ := ch_ok hx
  obtain ⟨k1, r0, k2, i1, i3, l1, l2, hvs, hvz, hsz, hc⟩ := H
  have s1 : Int32.ofNat (len) + 1 = Int32.ofNat (len + 1) := i32_add (b := 1)
  have b_1 : inb (Int32.ofNat len) cap = true := inb_nat (by omega) (by omega)
  have n_1 : (Int32.ofNat len).toNatClampNeg = len := i32_nat (by omega)
  have g4 : dM PG 303 [.ref s, .int (Int32.ofNat x)] h = some (.inl (some (.ref s)), (h.si s 3 (Int32.ofNat (len + 1))).si v len (Int32.ofNat x)) := by
    rw [dM_of (Nat.le_of_ble_eq_true rfl)]
    simp -implicitDefEqProofs only [D_303_0, k_303_0, D_303_45, k_303_45, D_303_56, k_303_56, D_303_75, k_303_75, R_303, v_aload_n, g_getfield, sv_i, rf_s, g_getfieldS, g_iconst, g_iadd, v_callV2, aft_v, aft_n, v_callV1, g_if_eq, v_iload_n, v_callS1, sv_a, g_dup_i, g_dup_r, g_dup_x1, g_put_i, g_i2b, v_bastore, wrB_0, g_goto, g_areturn, entL, getL, setL, kL_i, kL_r, isI_s, isR_s, isJ_s, gV_s, iV_i, cs0, cs1, cs2, cs3, cs4, dn_nil, kd_si, kd_sl, kd_sw, mr_si, mr_sl, mr_sw, ml_si, ml_sw, mi_sl, k1, i3, s1, g1, k1, r0, k2, g2, g3, ↓if_neg z_1, if_neg z_1, i3, g_dup_x1, b_1, n_1, b8]
  rw [dM_of (Nat.le_of_ble_eq_true rfl)]
  simp -implicitDefEqProofs only [D_241_0, k_241_0, R_241, v_aload_n, v_iload_n, v_callU2, aft_v, aft_n, g_pop_i, g_pop_r, g_areturn, entL, getL, setL, kL_i, kL_r, isI_s, isR_s, isJ_s, gV_s, iV_i, cs0, cs1, cs2, cs3, cs4, dn_nil, kd_si, kd_sl, kd_sw, mr_si, mr_sl, mr_sw, ml_si, ml_sw, mi_sl, k1, g4]
theorem sbx_c {h : Mm} {s v cap len x : Nat} {c : Nat → Nat} (H : SBx h s v cap len c) (hm : len + 1 ≤ cap) (hx : x < 128) : SBx ((h.si s 3 (Int32.ofNat (len + 1))).si v len (Int32.ofNat x)) s v cap (len + 1) (zu c len x) := by
  obtain ⟨k1, r0, k2, i1, i3, l1, l2, hvs, hvz, hsz, hc⟩ := H
  have w1 : ∀ j, j ≠ 3 → ((h.si s 3 (Int32.ofNat (len + 1))).si v len (Int32.ofNat x)).mi s j = h.mi s j := fun j hj => by
    rw [mi_sa (Ne.symm hvs), mi_sk hj]
  refine ⟨k1, r0, k2, ?_, ?_, by omega, l2, hvs, hvz, hsz, fun k hk => ?_⟩
  · rw [w1 1 (by decide), i1]
  · rw [mi_sa (Ne.symm hvs), mi_ss]
  · by_cases e : k = len
    · subst e
      rw [zu_same, mi_ss]
      exact ⟨hx, rfl⟩
    · obtain ⟨d1, d2⟩ := hc k (by omega)
      rw [zu_o e, mi_sk e, mi_sa hvs]
      exact ⟨d1, d2⟩
-- a new builder
def sbN (h : Mm) (x : Nat) : Mm := ((h.nw (some (.inr (.byte, 16))) 16).sr x 0 (some h.sz)).si x 1 0
theorem R_233 : PG.2.1 233 = none := rfl
theorem m_233 {h : Mm} {x : Nat} (hx : x < h.sz) (hk : h.kd x = some (.inl 10)) : dM PG 233 [.ref x, .int 16] h = some (.inl none, sbN h x) := by
  have k' : (h.nw (some (.inr (.byte, 16))) 16).kd x = some (.inl 10) := by rw [kd_nw', zu_o (by omega), hk]
  have k2 : ((h.nw (some (.inr (.byte, 16))) 16).sr x 0 (some h.sz)).kd x = some (.inl 10) := k'
  rw [dM_of (Nat.le_of_ble_eq_true rfl)]
  simp -implicitDefEqProofs only [D_233_0, k_233_0, D_233_25, k_233_25, D_233_38, k_233_38, R_233, v_aload_n, g_obj, g_getstatic, g_if_eq, v_iload_n, g_put_a, g_iconst, g_put_b, g_goto, g_return, entL, getL, setL, kL_i, kL_r, isI_s, isR_s, isJ_s, gV_s, iV_i, cs0, cs1, cs2, cs3, cs4, dn_nil, kd_si, kd_sl, kd_sw, mr_si, mr_sl, mr_sw, ml_si, ml_sw, mi_sl, ↓if_neg z_1, if_neg z_1, nA_16, g_put_a k', g_put_b k2]
  rfl
theorem R_134 : PG.2.1 134 = none := rfl
theorem m_134 {h : Mm} {x : Nat} (hx : x < h.sz) (hk : h.kd x = some (.inl 10)) : dM PG 134 [.ref x] h = some (.inl none, sbN h x) := by
  have g := m_233 hx hk
  rw [dM_of (Nat.le_of_ble_eq_true rfl)]
  simp -implicitDefEqProofs only [D_134_0, k_134_0, R_134, v_aload_n, g_bipush, v_callI2, aft_v, aft_n, g_return, entL, getL, setL, kL_i, kL_r, isI_s, isR_s, isJ_s, gV_s, iV_i, cs0, cs1, cs2, cs3, cs4, dn_nil, kd_si, kd_sl, kd_sw, mr_si, mr_sl, mr_sw, ml_si, ml_sw, mi_sl, hk, g]
theorem R_382 : PG.2.1 382 = none := rfl
theorem m_382 {n : Nat} (hn : n < 2147483648) {h : Mm} : dM PG 382 [.int 0, .int (Int32.ofNat n)] h = some (.inl none, h) := by
  have z : (0 : Int32) ≤ Int32.ofNat n := Int32.not_lt.mp (i32_0n hn)
  rw [dM_of (Nat.le_of_ble_eq_true rfl)]
  simp -implicitDefEqProofs only [D_382_0, k_382_0, D_382_37, k_382_37, R_382, v_iload_n, g_icmp_ge, g_return, entL, getL, setL, kL_i, kL_r, isI_s, isR_s, isJ_s, gV_s, iV_i, cs0, cs1, cs2, cs3, cs4, dn_nil, kd_si, kd_sl, kd_sw, mr_si, mr_sl, mr_sw, ml_si, ml_sw, mi_sl, ↓if_pos z, if_pos z]
theorem R_381 : PG.2.1 381 = (some (.array .byte)) := rfl
theorem m_381 {h : Mm} {v cap n : Nat} (hk : h.kd v = some (.inr (.byte, cap))) (hv : v < h.sz) (h1 : n ≤ cap) (h2 : cap ≤ 10000) : dM PG 381 [.ref v, .int 0, .int (Int32.ofNat n)] h = some (.inl (some (.ref h.sz)), (h.nw (some (.inr (.byte, n))) n).sw h.sz (upto n (h.mi v) (fun _ => 0))) := by
  have g := m_382 (n := n) (by omega) (h := h)
  have w : ¬ (Int32.ofNat n < 0 ∨ 100000 < (Int32.ofNat n).toNatClampNeg) := fun hc => hc.elim (i32_0n (by omega)) (fun hc => by rw [i32_nat (by omega)] at hc; omega)
  have n_1 : (Int32.ofNat n).toNatClampNeg = n := i32_nat (by omega)
  have s0 : Int32.ofNat n - 0 = Int32.ofNat n := i32_sub (b := 0) (Nat.zero_le _)
  have s1 : Int32.ofNat cap - 0 = Int32.ofNat cap := i32_sub (b := 0) (Nat.zero_le _)
  have mn : (if Int32.ofNat n < Int32.ofNat cap then Int32.ofNat n else Int32.ofNat cap) = Int32.ofNat n := by
    by_cases e : n = cap
    · rw [e]
      split <;> rfl
    · rw [if_pos ((i32_lt (by omega) (by omega)).mpr (by omega))]
  have hk' : (h.nw (some (.inr (.byte, n))) n).kd v = some (.inr (.byte, cap)) := by rw [kd_nw', zu_o (by omega), hk]
  have hz' : (h.nw (some (.inr (.byte, n))) n).kd h.sz = some (.inr (.byte, n)) := by rw [kd_nw', zu_same]
  have m1 : (h.nw (some (.inr (.byte, n))) n).mi v = h.mi v := by rw [mi_nw, zu_o (by omega)]
  have m2 : (h.nw (some (.inr (.byte, n))) n).mi h.sz = fun _ => 0 := by rw [mi_nw, zu_same]
  have g1 := aCpy_b (h := h.nw (some (.inr (.byte, n))) n) (p := v) (q := h.sz) (n := n) (d := 0) (Or.inl hk') hz' h1 (by omega) (by omega)
  rw [m1, m2, va_upto, show Int32.ofNat 0 = 0 from rfl] at g1
  have na : ∀ (P : Pg) (y fin nx a b w' : Nat) (vv : Value) (rs : List Rw) (L : Lc) (st : List Value) (t : ArrayType), dn P y ((.newarray t, nx, a, b, vv, .byte, w') :: rs) fin L (.int (Int32.ofNat n) :: st) h = dn P y rs fin L (.ref h.sz :: st) (h.nw (some (.inr (.byte, n))) n) := fun P y fin nx a b w' vv rs L st t => by
    rw [g_newarray w, n_1]
  have cp : ∀ (P : Pg) (y fin nx a w' ix : Nat) (ty : FieldType) (rs : List Rw) (L : Lc) (u : Int32), dn P y ((.invokestatic ix, nx, a, 4, .int u, ty, w') :: rs) fin L [.int (Int32.ofNat n), .int 0, .ref h.sz, .int 0, .ref v] (h.nw (some (.inr (.byte, n))) n) = dn P y rs fin L [] ((h.nw (some (.inr (.byte, n))) n).sw h.sz (upto n (h.mi v) (fun _ => 0))) := fun P y fin nx a w' ix ty rs L u => g_cpy (by decide)  g1
  rw [dM_of (Nat.le_of_ble_eq_true rfl)]
  simp -implicitDefEqProofs only [D_381_0, k_381_0, R_381, v_iload_n, v_callS2, aft_v, aft_n, g_isub, g_istore_n, g_astore, g_astoreN, v_aload_n, v_aload, g_iconst, v_alen, isA_0, lnA_0, g_min, v_cpy, g_areturn, entL, getL, setL, kL_i, kL_r, isI_s, isR_s, isJ_s, gV_s, iV_i, cs0, cs1, cs2, cs3, cs4, dn_nil, kd_si, kd_sl, kd_sw, mr_si, mr_sl, mr_sw, ml_si, ml_sw, mi_sl, hk, hk', g, s0, s1, na, mn, cp]
theorem R_380 : PG.2.1 380 = (some (.array .byte)) := rfl
theorem m_380 {h : Mm} {v cap n : Nat} (hk : h.kd v = some (.inr (.byte, cap))) (hv : v < h.sz) (h1 : n < cap) (h2 : cap ≤ 10000) : dM PG 380 [.ref v, .int 0, .int (Int32.ofNat n)] h = some (.inl (some (.ref h.sz)), (h.nw (some (.inr (.byte, n))) n).sw h.sz (upto n (h.mi v) (fun _ => 0))) := by
  have g := m_381 hk hv (Nat.le_of_lt h1) h2
  have z : ¬ Int32.ofNat n = Int32.ofNat cap := i32_ne (by omega) (by omega) (by omega)
  rw [dM_of (Nat.le_of_ble_eq_true rfl)]
  simp -implicitDefEqProofs only [D_380_0, k_380_0, D_380_10, k_380_10, D_380_17, k_380_17, R_380, v_iload_n, g_if_ne, v_aload_n, v_alen, isA_0, lnA_0, g_icmp_eq, v_callS3, aft_v, aft_n, g_areturn, entL, getL, setL, kL_i, kL_r, isI_s, isR_s, isJ_s, gV_s, iV_i, cs0, cs1, cs2, cs3, cs4, dn_nil, kd_si, kd_sl, kd_sw, mr_si, mr_sl, mr_sw, ml_si, ml_sw, mi_sl, hk, ↓if_true, if_true, ↓if_neg z, if_neg z, g]
theorem R_379 : PG.2.1 379 = (some (.array .byte)) := rfl
theorem m_379 {h : Mm} {s v cap len : Nat} {c : Nat → Nat} (H : SBx h s v cap len c) : dM PG 379 [.ref s] h = some (.inl (some (.ref v)), h) := by
  obtain ⟨k1, r0, -⟩ := H
  rw [dM_of (Nat.le_of_ble_eq_true rfl)]
  simp -implicitDefEqProofs only [D_379_0, k_379_0, R_379, v_aload_n, g_getfield, sv_a, rf_s, g_getfieldS, g_areturn, entL, getL, setL, kL_i, kL_r, isI_s, isR_s, isJ_s, gV_s, iV_i, cs0, cs1, cs2, cs3, cs4, dn_nil, kd_si, kd_sl, kd_sw, mr_si, mr_sl, mr_sw, ml_si, ml_sw, mi_sl, k1, r0]
/-- a String at x over the builder's first n letters -/
def strN (h : Mm) (x v n : Nat) : Mm := (((h.si x 1 0).nw (some (.inr (.byte, n))) n).sw h.sz (upto n (h.mi v) (fun _ => 0))).sr x 0 (some h.sz)
theorem R_378 : PG.2.1 378 = none := rfl
theorem m_378 {h : Mm} {x s v n : Nat} {c : Nat → Nat} (H : SBx h s v 16 n c) (hn : n < 16) (hx : x < h.sz) (hk : h.kd x = some (.inl 9)) (hv : x ≠ v) : dM PG 378 [.ref x, .ref s, .null] h = some (.inl none, strN h x v n) := by
  have g1 := m_379 H
  have g2 := m_234 H
  have g3 := m_339 H
  obtain ⟨k1, r0, k2, i1, i3, l1, l2, hvs, hvz, hsz, hc⟩ := H
  have mv : (h.si x 1 0).mi v = h.mi v := mi_sa (Ne.symm hv)
  have g4 := m_380 (h := h.si x 1 0) (v := v) (cap := 16) (n := n) k2 hvz hn (by decide)
  rw [mv] at g4
  have k' : (((h.si x 1 0).nw (some (.inr (.byte, n))) n).sw h.sz (upto n (h.mi v) (fun _ => 0))).kd x = some (.inl 9) := by
    show ((h.si x 1 0).nw (some (.inr (.byte, n))) n).kd x = _
    rw [kd_nw', zu_o (by show x ≠ h.sz; omega)]
    exact hk
  have k0 : (h.si x 1 0).sz = h.sz := rfl
  rw [k0] at g4
  rw [dM_of (Nat.le_of_ble_eq_true rfl)]
  simp -implicitDefEqProofs only [D_378_0, k_378_0, D_378_41, k_378_41, D_378_79, k_378_79, D_378_97, k_378_97, R_378, v_aload_n, g_obj, v_callV1, aft_v, aft_n, g_astore_n, g_astore_nN, g_istore, g_if_eq, g_iconst, g_put_b, v_iload, v_callS3, g_put_a, g_goto, g_getstatic, g_getfield, sv_z, rf_s, g_getfieldS, g_ishl, g_return, entL, getL, setL, kL_i, kL_r, isI_s, isR_s, isJ_s, gV_s, iV_i, cs0, cs1, cs2, cs3, cs4, dn_nil, kd_si, kd_sl, kd_sw, mr_si, mr_sl, mr_sw, ml_si, ml_sw, mi_sl, k1, g1, g2, g3, ↓if_neg z_1, if_neg z_1, g_put_b hk, g4, g_put_a k']
  rfl
theorem R_377 : PG.2.1 377 = none := rfl
theorem m_377 {h : Mm} {x s v n : Nat} {c : Nat → Nat} (H : SBx h s v 16 n c) (hn : n < 16) (hx : x < h.sz) (hk : h.kd x = some (.inl 9)) (hv : x ≠ v) : dM PG 377 [.ref x, .ref s] h = some (.inl none, strN h x v n) := by
  have g := m_378 H hn hx hk hv
  rw [dM_of (Nat.le_of_ble_eq_true rfl)]
  simp -implicitDefEqProofs only [D_377_0, k_377_0, R_377, v_aload_n, g_aconst_null, v_callI3, aft_v, aft_n, g_return, entL, getL, setL, kL_i, kL_r, isI_s, isR_s, isJ_s, gV_s, iV_i, cs0, cs1, cs2, cs3, cs4, dn_nil, kd_si, kd_sl, kd_sw, mr_si, mr_sl, mr_sw, ml_si, ml_sw, mi_sl, hk, g]
