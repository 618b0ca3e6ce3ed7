-- ===== builders: room, letters, words =====
theorem R_338 : PG.2.1 338 = none := rfl
theorem m_338 {h : Mm} {s v cap len mn : Nat} {c : Nat → Nat} (H : SBx h s v cap len c) (hm : mn ≤ 300) : ∃ h' v' cap', dM PG 338 [.ref s, .int (Int32.ofNat mn)] h = some (.inl none, h') ∧ SBx h' s v' cap' len c ∧ (v' = v ∨ h.sz ≤ v') ∧ FrB h h' s v cap cap' ∧ mn ≤ cap' := by
  by_cases cm : mn ≤ cap
  · refine ⟨h, v, cap, ?_, H, Or.inl rfl, FrB.rf, cm⟩
    obtain ⟨k1, r0, k2, i1, i3, l1, l2, -⟩ := H
    have e : Int32.ofNat mn - Int32.ofNat cap ≤ 0 := by
      rw [Int32.le_iff_toInt_le, Int32.toInt_sub, i32_toInt (by omega), i32_toInt (by omega), show (0 : Int32).toInt = 0 from by decide]
      have : ((mn : Int) - (cap : Int)).bmod (2 ^ 32) = (mn : Int) - cap := Int.bmod_eq_of_le (by omega) (by omega)
      rw [this]; omega
    rw [dM_of (Nat.le_of_ble_eq_true rfl)]
    simp -implicitDefEqProofs only [D_338_0, k_338_0, D_338_38, k_338_38, R_338, v_aload_n, g_getfield, sv_a, rf_s, g_getfieldS, v_alen, isA_0, lnA_0, sv_b, g_ishr, g_istore_n, v_iload_n, g_isub, g_if_le, v_callV2, aft_v, aft_n, g_ishl, v_callS2, g_put_a, g_return, entL, getL, setL, kL_i, kL_r, isI_s, isR_s, isJ_s, gV_s, iV_i, cs0, cs1, cs2, cs3, cs4, dn_nil, kd_si, kd_sl, kd_sw, mr_si, mr_sl, mr_sw, ml_si, ml_sw, mi_sl, k1, r0, k2, i1, shr_0, ↓if_pos e, if_pos e]
  · have g0 := m_360 H (mn := mn) (by omega) (by omega)
    obtain ⟨k1, r0, k2, i1, i3, l1, l2, hvs, hvz, hsz, hc⟩ := H
    have e : ¬ Int32.ofNat mn - Int32.ofNat cap ≤ 0 := by
      rw [i32_sub (by omega)]
      show ¬ Int32.ofNat (mn - cap) ≤ Int32.ofNat 0
      rw [i32_le (by omega) (by omega)]; omega
    have g1 := m_361 (h := h) k2 hvz (nc := max mn (2 * cap + 2)) (by omega) (by omega)
    generalize hnc : max mn (2 * cap + 2) = nc at g0 g1
    have ks : ((h.nw (some (.inr (.byte, nc))) nc).sw h.sz (upto cap (h.mi v) (fun _ => 0))).kd s = some (.inl 10) := by
      show (h.nw (some (.inr (.byte, nc))) nc).kd s = _
      rw [kd_nw', zu_o (by omega), k1]
    refine ⟨((h.nw (some (.inr (.byte, nc))) nc).sw h.sz (upto cap (h.mi v) (fun _ => 0))).sr s 0 (some h.sz), h.sz, nc, ?_, ?_, Or.inr (Nat.le_refl _), ?_, by omega⟩
    · rw [dM_of (Nat.le_of_ble_eq_true rfl)]
      simp -implicitDefEqProofs only [D_338_0, k_338_0, D_338_38, k_338_38, R_338, v_aload_n, g_getfield, sv_a, rf_s, g_getfieldS, v_alen, isA_0, lnA_0, sv_b, g_ishr, g_istore_n, v_iload_n, g_isub, g_if_le, v_callV2, aft_v, aft_n, g_ishl, v_callS2, g_put_a, g_return, entL, getL, setL, kL_i, kL_r, isI_s, isR_s, isJ_s, gV_s, iV_i, cs0, cs1, cs2, cs3, cs4, dn_nil, kd_si, kd_sl, kd_sw, mr_si, mr_sl, mr_sw, ml_si, ml_sw, mi_sl, k1, r0, k2, i1, shr_0, shl_0, ↓if_neg e, if_neg e, g0, g1, ks]
    · refine ⟨ks, ?_, ?_, ?_, ?_, by omega, by omega, by omega, Nat.lt_add_one _, Nat.lt_succ_of_lt hsz, fun k hk => ?_⟩
      · exact z2_s
      · show (h.nw (some (.inr (.byte, nc))) nc).kd h.sz = _
        rw [kd_nw', zu_same]
      · show ((h.nw (some (.inr (.byte, nc))) nc).sw h.sz (upto cap (h.mi v) (fun _ => 0))).mi s 1 = 0
        rw [mi_swo (by omega), mi_nw, zu_o (by omega), i1]
      · show ((h.nw (some (.inr (.byte, nc))) nc).sw h.sz (upto cap (h.mi v) (fun _ => 0))).mi s 3 = _
        rw [mi_swo (by omega), mi_nw, zu_o (by omega), i3]
      · obtain ⟨d1, d2⟩ := hc k hk
        refine ⟨d1, ?_⟩
        show ((h.nw (some (.inr (.byte, nc))) nc).sw h.sz (upto cap (h.mi v) (fun _ => 0))).mi h.sz k = _
        rw [mi_sw, up_lt (by omega), d2]
    · refine ⟨Nat.le_succ _, fun a ha => ⟨?_, ?_⟩, fun a ha hs => ?_, fun a ha hs hn => ?_, ?_, ?_, by omega⟩
      · show (h.nw (some (.inr (.byte, nc))) nc).kd a = _
        rw [kd_nw', zu_o (by omega)]
      · show (h.nw (some (.inr (.byte, nc))) nc).ml a = _
        rw [ml_nw, zu_o (by omega)]
      · show zu2 (h.nw (some (.inr (.byte, nc))) nc).mr s 0 (some h.sz) a = _
        rw [z2_o hs, mr_nw, zu_o (by omega)]
      · show ((h.nw (some (.inr (.byte, nc))) nc).sw h.sz (upto cap (h.mi v) (fun _ => 0))).mi a = _
        rw [mi_swo (by omega), mi_nw, zu_o (by omega)]
      · show h.ns + nc + 2 * cap ≤ h.ns + 2 * nc
        omega
      · show h.nc + 1 + cap ≤ h.nc + nc
        omega
theorem R_343 : PG.2.1 343 = (some .boolean) := rfl
theorem m_343 {c : Nat} (hc : c < 128) {h : Mm} : dM PG 343 [.int (Int32.ofNat c)] h = some (.inl (some (.int 1)), h) := by
  rw [dM_of (Nat.le_of_ble_eq_true rfl)]
  have e : ¬ (255 : Int32) < Int32.ofNat c := by
    show ¬ Int32.ofNat 255 < Int32.ofNat c
    rw [i32_lt (by omega) (by omega)]; omega
  simp -implicitDefEqProofs only [D_343_0, k_343_0, D_343_11, k_343_11, D_343_12, k_343_12, R_343, v_iload_n, g_sipush, g_icmp_gt, g_iconst, g_goto, g_ireturn, entL, getL, setL, kL_i, kL_r, isI_s, isR_s, isJ_s, gV_s, iV_i, cs0, cs1, cs2, cs3, cs4, dn_nil, kd_si, kd_sl, kd_sw, mr_si, mr_sl, mr_sw, ml_si, ml_sw, mi_sl, ↓if_neg e, if_neg e, rX_1]
theorem R_303 : PG.2.1 303 = (some (.object "java/lang/AbstractStringBuilder")) := rfl
theorem m_303 {h : Mm} {s v cap len x : Nat} {c : Nat → Nat} (H : SBx h s v cap len c) (hm : len + 1 ≤ 300) (hx : x < 128) : Apd (dM PG 303 [.ref s, .int (Int32.ofNat x)] h) h s v cap (len + 1) (zu c len x) := by
  obtain ⟨h1, v1, cap1, g1, H1, hv1, F1, hc1⟩ := m_338 H (mn := len + 1) hm
  have g2 := m_339 H1
  have g3 := m_343 hx (h := h1)
  obtain ⟨-, -, b8, -⟩ := ch_ok hx
  obtain ⟨k1', -, -, -, i3', -⟩ := H
  obtain ⟨k1, r0, k2, i1, i3, l1, l2, hvs, hvz, hsz, hc⟩ := H1
  have s1 : Int32.ofNat (len) + 1 = Int32.ofNat (len + 1) := i32_add (b := 1)
  have b_1 : inb (Int32.ofNat len) cap1 = true := inb_nat (by omega) (by omega)
  have n_1 : (Int32.ofNat len).toNatClampNeg = len := i32_nat (by omega)
  refine ⟨(h1.si s 3 (Int32.ofNat (len + 1))).si v1 len (Int32.ofNat x), v1, cap1, ?_, ?_, hv1, ?_⟩
  · rw [dM_of (Nat.le_of_ble_eq_true rfl)]
    simp -implicitDefEqProofs only [D_303_0, k_303_0, D_303_45, k_303_45, D_303_56, k_303_56, D_303_75, k_303_75, R_303, v_aload_n, g_getfield, sv_i, rf_s, g_getfieldS, g_iconst, g_iadd, v_callV2, aft_v, aft_n, v_callV1, g_if_eq, v_iload_n, v_callS1, sv_a, g_dup_i, g_dup_r, g_dup_x1, g_put_i, g_i2b, v_bastore, wrB_0, g_goto, g_areturn, entL, getL, setL, kL_i, kL_r, isI_s, isR_s, isJ_s, gV_s, iV_i, cs0, cs1, cs2, cs3, cs4, dn_nil, kd_si, kd_sl, kd_sw, mr_si, mr_sl, mr_sw, ml_si, ml_sw, mi_sl, k1', i3', s1, g1, k1, r0, k2, g2, g3, ↓if_neg z_1, if_neg z_1, i3, g_dup_x1, b_1, n_1, b8]
  · have w1 : ∀ j, j ≠ 3 → ((h1.si s 3 (Int32.ofNat (len + 1))).si v1 len (Int32.ofNat x)).mi s j = h1.mi s j := fun j hj => by
      rw [mi_sa (Ne.symm hvs), mi_sk hj]
    refine ⟨k1, r0, k2, ?_, ?_, by omega, l2, hvs, hvz, hsz, fun k hk => ?_⟩
    · rw [w1 1 (by decide), i1]
    · rw [mi_sa (Ne.symm hvs), mi_ss]
    · by_cases e : k = len
      · subst e
        rw [zu_same, mi_ss]
        exact ⟨hx, rfl⟩
      · obtain ⟨d1, d2⟩ := hc k (by omega)
        rw [zu_o e, mi_sk e, mi_sa hvs]
        exact ⟨d1, d2⟩
  · refine F1.tr hv1 ⟨Nat.le_refl _, fun a ha => ⟨rfl, rfl⟩, fun a ha hs => rfl, fun a ha hs hn => ?_, Nat.le_refl _, Nat.le_refl _, Nat.le_refl _⟩
    rw [mi_sa hn, mi_sa hs]
theorem apd_areturn {o : Option Rs} {h : Mm} {s v cap len' : Nat} {c' : Nat → Nat} (H : Apd o h s v cap len' c') : ∃ h' v' cap', o = some (.inl (some (.ref s)), h') ∧ SBx h' s v' cap' len' c' ∧ (v' = v ∨ h.sz ≤ v') ∧ FrB h h' s v cap cap' := H
theorem R_241 : PG.2.1 241 = (some (.object "java/lang/StringBuilder")) := rfl
theorem m_241 {h : Mm} {s v cap len x : Nat} {c : Nat → Nat} (H : SBx h s v cap len c) (hm : len + 1 ≤ 300) (hx : x < 128) : Apd (dM PG 241 [.ref s, .int (Int32.ofNat x)] h) h s v cap (len + 1) (zu c len x) := by
  obtain ⟨h1, v1, cap1, g1, H1, hv1, F1⟩ := m_303 H hm hx
  refine ⟨h1, v1, cap1, ?_, H1, hv1, F1⟩
  have k1 := H.1
  rw [dM_of (Nat.le_of_ble_eq_true rfl)]
  simp -implicitDefEqProofs only [D_241_0, k_241_0, R_241, v_aload_n, v_iload_n, v_callU2, aft_v, aft_n, g_pop_i, g_pop_r, g_areturn, entL, getL, setL, kL_i, kL_r, isI_s, isR_s, isJ_s, gV_s, iV_i, cs0, cs1, cs2, cs3, cs4, dn_nil, kd_si, kd_sl, kd_sw, mr_si, mr_sl, mr_sw, ml_si, ml_sw, mi_sl, k1, g1]
theorem R_362 : PG.2.1 362 = none := rfl
theorem m_362 {h : Mm} {s v cap len p q n : Nat} {c d : Nat → Nat} (H : SBx h s v cap len c) (G : STR h p q n d) : dM PG 362 [.ref s, .ref p] h = some (.inl none, h) := by
  rw [dM_of (Nat.le_of_ble_eq_true rfl)]
  have g := m_304 G
  obtain ⟨k1, r0, k2, i1, -⟩ := H
  obtain ⟨h0, h1, ⟨p1, p2⟩ | ⟨p1, p2⟩, hn, hc⟩ := G
  · simp -implicitDefEqProofs only [D_362_0, k_362_0, D_362_21, k_362_21, R_362, g_getstatic, g_if_eq, v_aload_n, g_getfield, sv_b, rf_s, g_getfieldS, v_callV1, aft_v, aft_n, v_callVS1, g_icmp_eq, g_return, entL, getL, setL, kL_i, kL_r, isI_s, isR_s, isJ_s, gV_s, iV_i, cs0, cs1, cs2, cs3, cs4, dn_nil, kd_si, kd_sl, kd_sw, mr_si, mr_sl, mr_sw, ml_si, ml_sw, mi_sl, k1, p1, i1, g, ↓if_neg z_1, if_neg z_1, ↓if_true, if_true]
  · simp -implicitDefEqProofs only [D_362_0, k_362_0, D_362_21, k_362_21, R_362, g_getstatic, g_if_eq, v_aload_n, g_getfield, sv_b, rf_s, g_getfieldS, v_callV1, aft_v, aft_n, v_callVS1, g_icmp_eq, g_return, entL, getL, setL, kL_i, kL_r, isI_s, isR_s, isJ_s, gV_s, iV_i, cs0, cs1, cs2, cs3, cs4, dn_nil, kd_si, kd_sl, kd_sw, mr_si, mr_sl, mr_sw, ml_si, ml_sw, mi_sl, k1, p1, i1, g, ↓if_neg z_1, if_neg z_1, ↓if_true, if_true]
theorem R_363 : PG.2.1 363 = none := rfl
theorem m_363 {h : Mm} {v cap len p q n : Nat} {d : Nat → Nat} (hv : h.kd v = some (.inr (.byte, cap))) (hl : len + n ≤ cap) (hcap : cap ≤ 600) (G : STR h p q n d) : dM PG 363 [.ref p, .ref v, .int (Int32.ofNat len), .int 0] h = some (.inl none, h.sw v (va_cpy (h.mi q) (h.mi v) 0 len n)) := by
  rw [dM_of (Nat.le_of_ble_eq_true rfl)]
  have g := m_304 G
  obtain ⟨h0, h1, hk, hn, hc⟩ := G
  have kq : h.kd q = some (.inr (.byte, n)) ∨ h.kd q = some (.inr (.array .byte, n)) := hk.elim (fun e => Or.inl e.2) (fun e => Or.inr e.2)
  have gc := aCpy_b kq hv (Nat.le_refl n) hl (by omega)
  have cp : ∀ (P : Pg) (y fin nx a w' ix : Nat) (ty : FieldType) (rs : List Rw) (L : Lc) (u : Int32), dn P y ((.invokestatic ix, nx, a, 4, .int u, ty, w') :: rs) fin L [.int (Int32.ofNat n), .int (Int32.ofNat len), .ref v, .int 0, .ref q] h = dn P y rs fin L [] (h.sw v (va_cpy (h.mi q) (h.mi v) 0 len n)) := fun P y fin nx a w' ix ty rs L u => g_cpy (by decide) gc
  rcases hk with ⟨p1, p2⟩ | ⟨p1, p2⟩
  · simp -implicitDefEqProofs only [D_363_0, k_363_0, D_363_28, k_363_28, D_363_43, k_363_43, R_363, v_aload_n, v_callV1, aft_v, aft_n, v_callVS1, v_iload_n, g_icmp_ne, g_getfield, sv_a, rf_s, g_getfieldS, g_iconst, g_ishl, v_alen, isA_0, lnA_0, v_cpy, g_goto, g_return, entL, getL, setL, kL_i, kL_r, isI_s, isR_s, isJ_s, gV_s, iV_i, cs0, cs1, cs2, cs3, cs4, dn_nil, kd_si, kd_sl, kd_sw, mr_si, mr_sl, mr_sw, ml_si, ml_sw, mi_sl, p1, p2, h0, g, ↓if_true, if_true, shl_0, cp]
  · simp -implicitDefEqProofs only [D_363_0, k_363_0, D_363_28, k_363_28, D_363_43, k_363_43, R_363, v_aload_n, v_callV1, aft_v, aft_n, v_callVS1, v_iload_n, g_icmp_ne, g_getfield, sv_a, rf_s, g_getfieldS, g_iconst, g_ishl, v_alen, isA_0, lnA_0, v_cpy, g_goto, g_return, entL, getL, setL, kL_i, kL_r, isI_s, isR_s, isJ_s, gV_s, iV_i, cs0, cs1, cs2, cs3, cs4, dn_nil, kd_si, kd_sl, kd_sw, mr_si, mr_sl, mr_sw, ml_si, ml_sw, mi_sl, p1, p2, h0, g, ↓if_true, if_true, shl_0, cp]
theorem R_340 : PG.2.1 340 = none := rfl
theorem m_340 {h : Mm} {s v cap len p q n : Nat} {c d : Nat → Nat} (H : SBx h s v cap len c) (hl : len + n ≤ cap) (G : STR h p q n d) : dM PG 340 [.ref s, .int (Int32.ofNat len), .ref p] h = some (.inl none, h.sw v (va_cpy (h.mi q) (h.mi v) 0 len n)) := by
  rw [dM_of (Nat.le_of_ble_eq_true rfl)]
  have g := m_362 H G
  obtain ⟨k1, r0, k2, i1, i3, l1, l2, -⟩ := H
  have g2 := m_363 k2 hl l2 G
  obtain ⟨h0, h1, ⟨p1, p2⟩ | ⟨p1, p2⟩, hn, hc⟩ := G
  · simp -implicitDefEqProofs only [D_340_0, k_340_0, R_340, v_aload_n, v_callV2, aft_v, aft_n, g_getfield, sv_a, rf_s, g_getfieldS, v_iload_n, sv_b, v_callV4, v_callVS4, g_return, entL, getL, setL, kL_i, kL_r, isI_s, isR_s, isJ_s, gV_s, iV_i, cs0, cs1, cs2, cs3, cs4, dn_nil, kd_si, kd_sl, kd_sw, mr_si, mr_sl, mr_sw, ml_si, ml_sw, mi_sl, k1, p1, r0, i1, g, g2]
  · simp -implicitDefEqProofs only [D_340_0, k_340_0, R_340, v_aload_n, v_callV2, aft_v, aft_n, g_getfield, sv_a, rf_s, g_getfieldS, v_iload_n, sv_b, v_callV4, v_callVS4, g_return, entL, getL, setL, kL_i, kL_r, isI_s, isR_s, isJ_s, gV_s, iV_i, cs0, cs1, cs2, cs3, cs4, dn_nil, kd_si, kd_sl, kd_sw, mr_si, mr_sl, mr_sw, ml_si, ml_sw, mi_sl, k1, p1, r0, i1, g, g2]
theorem STR_fr {h h' : Mm} {s v cap cap' p q n : Nat} {d : Nat → Nat} (G : STR h p q n d) (F : FrB h h' s v cap cap') (hp : p < h.sz) (hq : q < h.sz) (hps : p ≠ s) (hpv : p ≠ v) (hqs : q ≠ s) (hqv : q ≠ v) : STR h' p q n d := by
  obtain ⟨h0, h1, hk, hn, hc⟩ := G
  obtain ⟨f1, f2, f3, f4, -⟩ := F
  refine ⟨?_, ?_, ?_, hn, fun k hk' => ?_⟩
  · rw [f3 p hp hps, h0]
  · rw [f4 p hp hps hpv, h1]
  · rw [(f2 p hp).1, (f2 q hq).1]; exact hk
  · rw [f4 q hq hqs hqv]; exact hc k hk'
def apL (len n : Nat) (c d : Nat → Nat) : Nat → Nat := fun j => if j < len then c j else if j < len + n then d (j - len) else c j
theorem R_301 : PG.2.1 301 = (some (.object "java/lang/AbstractStringBuilder")) := rfl
theorem m_301 {h : Mm} {s v cap len p q n : Nat} {c d : Nat → Nat} (H : SBx h s v cap len c) (hm : len + n ≤ 300) (G : STR h p q n d) (hp : p < h.sz) (hq : q < h.sz) (hps : p ≠ s) (hpv : p ≠ v) (hqs : q ≠ s) (hqv : q ≠ v) : Apd (dM PG 301 [.ref s, .ref p] h) h s v cap (len + n) (apL len n c d) := by
  obtain ⟨h1, v1, cap1, g1, H1, hv1, F1, hc1⟩ := m_338 H (mn := len + n) hm
  have G1 := STR_fr G F1 hp hq hps hpv hqs hqv
  have gl := m_244 G
  have g3 := m_340 H1 hc1 G1
  obtain ⟨k1', -, -, -, i3', -⟩ := H
  obtain ⟨k1, r0, k2, i1, i3, l1, l2, hvs, hvz, hsz, hc⟩ := H1
  have w0 : (h1.sw v1 (va_cpy (h1.mi q) (h1.mi v1) 0 len n)).mi s = h1.mi s := mi_swo (Ne.symm hvs)
  refine ⟨(h1.sw v1 (va_cpy (h1.mi q) (h1.mi v1) 0 len n)).si s 3 (Int32.ofNat (len + n)), v1, cap1, ?_, ?_, hv1, ?_⟩
  · have kp : h.kd p = some (.inl 9) ∨ h.kd p = some (.inl (9 + 1000)) := by
      obtain ⟨-, -, ⟨p1, -⟩ | ⟨p1, -⟩, -⟩ := G
      · exact Or.inl p1
      · exact Or.inr p1
    rw [dM_of (Nat.le_of_ble_eq_true rfl)]
    rcases kp with kp | kp
    · simp -implicitDefEqProofs only [D_301_0, k_301_0, D_301_9, k_301_9, R_301, v_aload_n, g_ifnonnull, g_ifnonnullN, v_callV1, aft_v, aft_n, v_callVS1, g_istore_n, g_getfield, sv_i, rf_s, g_getfieldS, v_iload_n, g_iadd, v_callV2, v_callV3, g_dup_i, g_dup_r, g_put_i, g_areturn, entL, getL, setL, kL_i, kL_r, isI_s, isR_s, isJ_s, gV_s, iV_i, cs0, cs1, cs2, cs3, cs4, dn_nil, kd_si, kd_sl, kd_sw, mr_si, mr_sl, mr_sw, ml_si, ml_sw, mi_sl, kp, k1', i3', gl, i32_add, g1, k1, i3, g3, kd_sw, w0]
    · simp -implicitDefEqProofs only [D_301_0, k_301_0, D_301_9, k_301_9, R_301, v_aload_n, g_ifnonnull, g_ifnonnullN, v_callV1, aft_v, aft_n, v_callVS1, g_istore_n, g_getfield, sv_i, rf_s, g_getfieldS, v_iload_n, g_iadd, v_callV2, v_callV3, g_dup_i, g_dup_r, g_put_i, g_areturn, entL, getL, setL, kL_i, kL_r, isI_s, isR_s, isJ_s, gV_s, iV_i, cs0, cs1, cs2, cs3, cs4, dn_nil, kd_si, kd_sl, kd_sw, mr_si, mr_sl, mr_sw, ml_si, ml_sw, mi_sl, kp, k1', i3', gl, i32_add, g1, k1, i3, g3, kd_sw, w0]
  · refine ⟨k1, r0, k2, ?_, ?_, by omega, l2, hvs, hvz, hsz, fun k hk => ?_⟩
    · rw [mi_sk (by decide), w0, i1]
    · rw [mi_ss]
    · have e1 : ((h1.sw v1 (va_cpy (h1.mi q) (h1.mi v1) 0 len n)).si s 3 (Int32.ofNat (len + n))).mi v1 k = va_cpy (h1.mi q) (h1.mi v1) 0 len n k := by
        rw [mi_sa hvs, mi_sw]
      rw [e1]
      unfold va_cpy apL
      by_cases e : k < len
      · rw [if_pos e, if_neg (by omega)]
        exact hc k e
      · rw [if_neg e, if_pos hk, if_pos (by omega), Nat.zero_add]
        exact G1.2.2.2.2 (k - len) (by omega)
  · refine F1.tr hv1 ⟨Nat.le_refl _, fun a ha => ⟨rfl, rfl⟩, fun a ha hs => rfl, fun a ha hs hn => ?_, Nat.le_refl _, Nat.le_refl _, Nat.le_refl _⟩
    rw [mi_sa hs, mi_swo hn]
theorem R_239 : PG.2.1 239 = (some (.object "java/lang/StringBuilder")) := rfl
theorem m_239 {h : Mm} {s v cap len p q n : Nat} {c d : Nat → Nat} (H : SBx h s v cap len c) (hm : len + n ≤ 300) (G : STR h p q n d) (hp : p < h.sz) (hq : q < h.sz) (hps : p ≠ s) (hpv : p ≠ v) (hqs : q ≠ s) (hqv : q ≠ v) : Apd (dM PG 239 [.ref s, .ref p] h) h s v cap (len + n) (apL len n c d) := by
  obtain ⟨h1, v1, cap1, g1, H1, hv1, F1⟩ := m_301 H hm G hp hq hps hpv hqs hqv
  refine ⟨h1, v1, cap1, ?_, H1, hv1, F1⟩
  have k1 := H.1
  rw [dM_of (Nat.le_of_ble_eq_true rfl)]
  simp -implicitDefEqProofs only [D_239_0, k_239_0, R_239, v_aload_n, v_callU2, aft_v, aft_n, g_pop_i, g_pop_r, g_areturn, entL, getL, setL, kL_i, kL_r, isI_s, isR_s, isJ_s, gV_s, iV_i, cs0, cs1, cs2, cs3, cs4, dn_nil, kd_si, kd_sl, kd_sw, mr_si, mr_sl, mr_sw, ml_si, ml_sw, mi_sl, k1, g1]
theorem R_300 : PG.2.1 300 = none := rfl
theorem m_300 {h : Mm} {s v cap len : Nat} {c : Nat → Nat} (H : SBx h s v cap len c) : ∃ h', dM PG 300 [.ref s, .int 0] h = some (.inl none, h') ∧ SBx h' s v cap 0 c ∧ FrB h h' s v cap cap := by
  have H0 := H
  obtain ⟨k1, r0, k2, i1, i3, l1, l2, hvs, hvz, hsz, hc⟩ := H
  have g1 : dM PG 338 [.ref s, .int 0] h = some (.inl none, h) := by
    have e : (0 : Int32) - Int32.ofNat cap ≤ 0 := by
      rw [Int32.le_iff_toInt_le, Int32.toInt_sub, i32_toInt (by omega), show (0 : Int32).toInt = 0 from by decide]
      have : ((0 : Int) - (cap : Int)).bmod (2 ^ 32) = (0 : Int) - cap := Int.bmod_eq_of_le (by omega) (by omega)
      rw [this]; omega
    rw [dM_of (Nat.le_of_ble_eq_true rfl)]
    simp -implicitDefEqProofs only [D_338_0, k_338_0, D_338_38, k_338_38, R_338, v_aload_n, g_getfield, sv_a, rf_s, g_getfieldS, v_alen, isA_0, lnA_0, sv_b, g_ishr, g_istore_n, v_iload_n, g_isub, g_if_le, v_callV2, aft_v, aft_n, g_ishl, v_callS2, g_put_a, g_return, entL, getL, setL, kL_i, kL_r, isI_s, isR_s, isJ_s, gV_s, iV_i, cs0, cs1, cs2, cs3, cs4, dn_nil, kd_si, kd_sl, kd_sw, mr_si, mr_sl, mr_sw, ml_si, ml_sw, mi_sl, k1, r0, k2, i1, shr_0, ↓if_pos e, if_pos e]
  have e0 : (0 : Int32) ≤ 0 := by decide
  have e1 : 0 ≤ Int32.ofNat len := Int32.not_lt.mp (i32_0n (by omega))
  have b1 : (1 : Int32) = 0 ∨ (1 : Int32) = 1 := Or.inr rfl
  by_cases l0 : Int32.ofNat len ≤ 0
  · refine ⟨h.si s 3 0, ?_, ⟨k1, r0, k2, ?_, ?_, by omega, l2, hvs, hvz, hsz, fun k hk => by omega⟩, ⟨Nat.le_refl _, fun a ha => ⟨rfl, rfl⟩, fun a ha hs => rfl, fun a ha hs hn => ?_, Nat.le_refl _, Nat.le_refl _, Nat.le_refl _⟩⟩
    · rw [dM_of (Nat.le_of_ble_eq_true rfl)]
      simp -implicitDefEqProofs only [D_300_0, k_300_0, D_300_13, k_300_13, D_300_48, k_300_48, D_300_63, k_300_63, D_300_76, k_300_76, R_300, v_iload_n, g_if_ge, v_aload_n, v_callV2, aft_v, aft_n, g_getfield, sv_i, rf_s, g_getfieldS, g_icmp_ge, v_callV1, g_if_eq, sv_a, g_icmp_le, g_iconst, g_put_z, g_put_i, g_return, entL, getL, setL, kL_i, kL_r, isI_s, isR_s, isJ_s, gV_s, iV_i, cs0, cs1, cs2, cs3, cs4, dn_nil, kd_si, kd_sl, kd_sw, mr_si, mr_sl, mr_sw, ml_si, ml_sw, mi_sl, k1, i3, ↓if_pos e0, if_pos e0, g1, ↓if_pos e1, if_pos e1, ↓if_pos l0, if_pos l0]
    · rw [mi_sk (by decide), i1]
    · rw [mi_ss]; rfl
    · rw [mi_sa hs]
  · refine ⟨(h.si s 2 1).si s 3 0, ?_, ⟨k1, r0, k2, ?_, ?_, by omega, l2, hvs, hvz, hsz, fun k hk => by omega⟩, ⟨Nat.le_refl _, fun a ha => ⟨rfl, rfl⟩, fun a ha hs => rfl, fun a ha hs hn => ?_, Nat.le_refl _, Nat.le_refl _, Nat.le_refl _⟩⟩
    · rw [dM_of (Nat.le_of_ble_eq_true rfl)]
      simp -implicitDefEqProofs only [D_300_0, k_300_0, D_300_13, k_300_13, D_300_48, k_300_48, D_300_63, k_300_63, D_300_76, k_300_76, R_300, v_iload_n, g_if_ge, v_aload_n, v_callV2, aft_v, aft_n, g_getfield, sv_i, rf_s, g_getfieldS, g_icmp_ge, v_callV1, g_if_eq, sv_a, g_icmp_le, g_iconst, g_put_z, g_put_i, g_return, entL, getL, setL, kL_i, kL_r, isI_s, isR_s, isJ_s, gV_s, iV_i, cs0, cs1, cs2, cs3, cs4, dn_nil, kd_si, kd_sl, kd_sw, mr_si, mr_sl, mr_sw, ml_si, ml_sw, mi_sl, k1, i3, ↓if_pos e0, if_pos e0, g1, ↓if_pos e1, if_pos e1, ↓if_neg l0, if_neg l0, b1, or_true]
    · rw [mi_sk (by decide), mi_sk (by decide), i1]
    · rw [mi_ss]; rfl
    · rw [mi_sa hs, mi_sa hs]
theorem R_237 : PG.2.1 237 = none := rfl
theorem m_237 {h : Mm} {s v cap len : Nat} {c : Nat → Nat} (H : SBx h s v cap len c) : ∃ h', dM PG 237 [.ref s, .int 0] h = some (.inl none, h') ∧ SBx h' s v cap 0 c ∧ FrB h h' s v cap cap := by
  obtain ⟨h1, g, H1, F⟩ := m_300 H
  refine ⟨h1, ?_, H1, F⟩
  have k1 := H.1
  rw [dM_of (Nat.le_of_ble_eq_true rfl)]
  simp -implicitDefEqProofs only [D_237_0, k_237_0, R_237, v_aload_n, v_iload_n, v_callU2, aft_v, aft_n, g_return, entL, getL, setL, kL_i, kL_r, isI_s, isR_s, isJ_s, gV_s, iV_i, cs0, cs1, cs2, cs3, cs4, dn_nil, kd_si, kd_sl, kd_sw, mr_si, mr_sl, mr_sw, ml_si, ml_sw, mi_sl, k1, g]
