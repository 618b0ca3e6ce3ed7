-- ===== strings and their builders =====
theorem sv_b {h : Mm} {a k : Nat} : slotV h a k .byte = .int (h.mi a k) := rfl
theorem g_put_b {P : Pg} {y fin nx a b w : Nat} {v : Value} {rs : List Rw} {L : Lc} {st : List Value} {h : Mm} {ix x : Nat} (hk : h.kd x = some (.inl a)) : dn P y ((.putfield ix, nx, a, b, v, .byte, w) :: rs) fin L (.int 0 :: .ref x :: st) h = dn P y rs fin L st (h.si x b 0) := g_putfield hk rfl
theorem rB_0 {h : Mm} : retX (some .byte) 0 h = some (.inl (some (.int 0)), h) := rfl
theorem shr_0 {x : Int32} : x >>> ((0 : Int32) &&& 31) = x := by
  have : (0 : Int32) &&& 31 = 0 := by decide
  rw [this, Int32.shiftRight_zero]
theorem shl_0 {x : Int32} : x <<< ((0 : Int32) &&& 31) = x := by
  have : (0 : Int32) &&& 31 = 0 := by decide
  rw [this, Int32.shiftLeft_zero]
theorem ch_ok {c : Nat} (hc : c < 128) : ((Int32.ofNat c &&& 255).toUInt32 % 65536).toInt32 = Int32.ofNat c ∧ ((Int32.ofNat c).toUInt32 % 65536).toInt32 = Int32.ofNat c ∧ (Int32.ofNat c).toInt8.toInt32 = Int32.ofNat c ∧ fits .char (.int (Int32.ofNat c)) = true := by
  have : ∀ j : Fin 128, ((Int32.ofNat j.val &&& 255).toUInt32 % 65536).toInt32 = Int32.ofNat j.val ∧ ((Int32.ofNat j.val).toUInt32 % 65536).toInt32 = Int32.ofNat j.val ∧ (Int32.ofNat j.val).toInt8.toInt32 = Int32.ofNat j.val ∧ fits .char (.int (Int32.ofNat j.val)) = true := by decide +kernel
  exact this ⟨c, hc⟩
theorem rC {x : Int32} {h : Mm} (hx : fits .char (.int x) = true) : retX (some .char) x h = some (.inl (some (.int x)), h) := if_pos hx
/-- a string: n small letters, digits, signs -/
def STR (h : Mm) (p q n : Nat) (c : Nat → Nat) : Prop := h.mr p 0 = some q ∧ h.mi p 1 = 0 ∧ ((h.kd p = some (.inl 9) ∧ h.kd q = some (.inr (.byte, n))) ∨ (h.kd p = some (.inl (9 + 1000)) ∧ h.kd q = some (.inr (.array .byte, n)))) ∧ n < 1000 ∧ ∀ k, k < n → c k < 128 ∧ h.mi q k = Int32.ofNat (c k)
theorem R_304 : PG.2.1 304 = (some .byte) := rfl
theorem m_304 {h : Mm} {p q n : Nat} {c : Nat → Nat} (H : STR h p q n c) : dM PG 304 [.ref p] h = some (.inl (some (.int 0)), h) := by
  rw [dM_of (Nat.le_of_ble_eq_true rfl)]
  obtain ⟨h0, h1, ⟨k1, k2⟩ | ⟨k1, k2⟩, hn, hc⟩ := H
  · simp -implicitDefEqProofs only [D_304_0, k_304_0, D_304_13, k_304_13, D_304_14, k_304_14, R_304, g_getstatic, g_if_eq, v_aload_n, g_getfield, sv_b, rf_s, g_getfieldS, g_goto, g_iconst, g_ireturn, entL, getL, setL, kL_i, kL_r, isI_s, isR_s, isJ_s, gV_s, iV_i, cs0, cs1, cs2, cs3, cs4, dn_nil, kd_si, kd_sl, kd_sw, mr_si, mr_sl, mr_sw, ml_si, ml_sw, mi_sl, k1, h1, ↓if_neg z_1, if_neg z_1, rB_0]
  · simp -implicitDefEqProofs only [D_304_0, k_304_0, D_304_13, k_304_13, D_304_14, k_304_14, R_304, g_getstatic, g_if_eq, v_aload_n, g_getfield, sv_b, rf_s, g_getfieldS, g_goto, g_iconst, g_ireturn, entL, getL, setL, kL_i, kL_r, isI_s, isR_s, isJ_s, gV_s, iV_i, cs0, cs1, cs2, cs3, cs4, dn_nil, kd_si, kd_sl, kd_sw, mr_si, mr_sl, mr_sw, ml_si, ml_sw, mi_sl, k1, h1, ↓if_neg z_1, if_neg z_1, rB_0]
theorem R_244 : PG.2.1 244 = (some .int) := rfl
theorem m_244 {h : Mm} {p q n : Nat} {c : Nat → Nat} (H : STR h p q n c) : dM PG 244 [.ref p] h = some (.inl (some (.int (Int32.ofNat n))), h) := by
  rw [dM_of (Nat.le_of_ble_eq_true rfl)]
  have g := m_304 H
  obtain ⟨h0, h1, ⟨k1, k2⟩ | ⟨k1, k2⟩, hn, hc⟩ := H
  · simp -implicitDefEqProofs only [D_244_0, k_244_0, R_244, v_aload_n, g_getfield, sv_a, rf_s, g_getfieldS, v_alen, isA_0, lnA_0, v_callV1, aft_v, aft_n, v_callVS1, g_ishr, g_ireturn, entL, getL, setL, kL_i, kL_r, isI_s, isR_s, isJ_s, gV_s, iV_i, cs0, cs1, cs2, cs3, cs4, dn_nil, kd_si, kd_sl, kd_sw, mr_si, mr_sl, mr_sw, ml_si, ml_sw, mi_sl, k1, k2, h0, g, shr_0, retX_int]
  · simp -implicitDefEqProofs only [D_244_0, k_244_0, R_244, v_aload_n, g_getfield, sv_a, rf_s, g_getfieldS, v_alen, isA_0, lnA_0, v_callV1, aft_v, aft_n, v_callVS1, g_ishr, g_ireturn, entL, getL, setL, kL_i, kL_r, isI_s, isR_s, isJ_s, gV_s, iV_i, cs0, cs1, cs2, cs3, cs4, dn_nil, kd_si, kd_sl, kd_sw, mr_si, mr_sl, mr_sw, ml_si, ml_sw, mi_sl, k1, k2, h0, g, shr_0, retX_int]
theorem R_305 : PG.2.1 305 = (some .boolean) := rfl
theorem m_305 {h : Mm} {p q n : Nat} {c : Nat → Nat} (H : STR h p q n c) : dM PG 305 [.ref p] h = some (.inl (some (.int 1)), h) := by
  rw [dM_of (Nat.le_of_ble_eq_true rfl)]
  obtain ⟨h0, h1, ⟨k1, k2⟩ | ⟨k1, k2⟩, hn, hc⟩ := H
  · simp -implicitDefEqProofs only [D_305_0, k_305_0, D_305_17, k_305_17, D_305_18, k_305_18, R_305, g_getstatic, g_if_eq, v_aload_n, g_getfield, sv_b, rf_s, g_getfieldS, g_if_ne, g_iconst, g_goto, g_ireturn, entL, getL, setL, kL_i, kL_r, isI_s, isR_s, isJ_s, gV_s, iV_i, cs0, cs1, cs2, cs3, cs4, dn_nil, kd_si, kd_sl, kd_sw, mr_si, mr_sl, mr_sw, ml_si, ml_sw, mi_sl, k1, h1, ↓if_neg z_1, if_neg z_1, ↓if_true, if_true, rX_1]
  · simp -implicitDefEqProofs only [D_305_0, k_305_0, D_305_17, k_305_17, D_305_18, k_305_18, R_305, g_getstatic, g_if_eq, v_aload_n, g_getfield, sv_b, rf_s, g_getfieldS, g_if_ne, g_iconst, g_goto, g_ireturn, entL, getL, setL, kL_i, kL_r, isI_s, isR_s, isJ_s, gV_s, iV_i, cs0, cs1, cs2, cs3, cs4, dn_nil, kd_si, kd_sl, kd_sw, mr_si, mr_sl, mr_sw, ml_si, ml_sw, mi_sl, k1, h1, ↓if_neg z_1, if_neg z_1, ↓if_true, if_true, rX_1]
theorem R_306 : PG.2.1 306 = (some .char) := rfl
theorem m_306 {h : Mm} {q n k c : Nat} (hq : h.kd q = some (.inr (.byte, n)) ∨ h.kd q = some (.inr (.array .byte, n))) (hn : n < 2147483648) (hk : k < n) (hc : c < 128) (hv : h.mi q k = Int32.ofNat c) : dM PG 306 [.ref q, .int (Int32.ofNat k)] h = some (.inl (some (.int (Int32.ofNat c))), h) := by
  rw [dM_of (Nat.le_of_ble_eq_true rfl)]
  have b_1 : inb (Int32.ofNat k) n = true := inb_nat hk (by omega)
  have n_1 : (Int32.ofNat k).toNatClampNeg = k := i32_nat (by omega)
  obtain ⟨c1, -, -, c4⟩ := ch_ok hc
  have a : ¬ Int32.ofNat k < 0 := i32_0n (by omega)
  have e : ¬ Int32.ofNat (n) ≤ Int32.ofNat (k) := by rw [i32_le (by omega) (by omega)]; omega
  have ck : ∀ (v : Value), ¬ (Int32.ofNat k < 0 ∨ Int32.ofNat n ≤ Int32.ofNat k ∨ 8 < catS []) := fun v hh => hh.elim a (fun hh => hh.elim e (fun hh => absurd hh (by decide)))
  have ck0 := ck .null
  rcases hq with hq | hq
  · simp -implicitDefEqProofs only [D_306_0, k_306_0, R_306, v_iload_n, v_aload_n, v_alen, isA_0, lnA_0, g_chk, v_baload, inB_0, inB_1, g_sipush, g_iand, g_i2c, g_ireturn, entL, getL, setL, kL_i, kL_r, isI_s, isR_s, isJ_s, gV_s, iV_i, cs0, cs1, cs2, cs3, cs4, dn_nil, kd_si, kd_sl, kd_sw, mr_si, mr_sl, mr_sw, ml_si, ml_sw, mi_sl, hq, ck0, not_false_eq_true, b_1, n_1, hv, c1, rC c4]
  · simp -implicitDefEqProofs only [D_306_0, k_306_0, R_306, v_iload_n, v_aload_n, v_alen, isA_0, lnA_0, g_chk, v_baload, inB_0, inB_1, g_sipush, g_iand, g_i2c, g_ireturn, entL, getL, setL, kL_i, kL_r, isI_s, isR_s, isJ_s, gV_s, iV_i, cs0, cs1, cs2, cs3, cs4, dn_nil, kd_si, kd_sl, kd_sw, mr_si, mr_sl, mr_sw, ml_si, ml_sw, mi_sl, hq, ck0, not_false_eq_true, b_1, n_1, hv, c1, rC c4]
theorem R_245 : PG.2.1 245 = (some .char) := rfl
theorem m_245 {h : Mm} {p q n k : Nat} {c : Nat → Nat} (H : STR h p q n c) (hk : k < n) : dM PG 245 [.ref p, .int (Int32.ofNat k)] h = some (.inl (some (.int (Int32.ofNat (c k)))), h) := by
  rw [dM_of (Nat.le_of_ble_eq_true rfl)]
  have g := m_305 H
  obtain ⟨h0, h1, hk2, hn, hc⟩ := H
  obtain ⟨d1, d2⟩ := hc k hk
  obtain ⟨-, -, -, c4⟩ := ch_ok d1
  rcases hk2 with ⟨k1, k2⟩ | ⟨k1, k2⟩
  · simp -implicitDefEqProofs only [D_245_0, k_245_0, D_245_16, k_245_16, R_245, v_aload_n, v_callV1, aft_v, aft_n, v_callVS1, g_if_eq, g_getfield, sv_a, rf_s, g_getfieldS, v_iload_n, v_callS2, g_ireturn, entL, getL, setL, kL_i, kL_r, isI_s, isR_s, isJ_s, gV_s, iV_i, cs0, cs1, cs2, cs3, cs4, dn_nil, kd_si, kd_sl, kd_sw, mr_si, mr_sl, mr_sw, ml_si, ml_sw, mi_sl, k1, h0, g, ↓if_neg z_1, if_neg z_1, m_306 (Or.inl k2) (show n < 2147483648 by omega) hk d1 d2, rC c4]
  · simp -implicitDefEqProofs only [D_245_0, k_245_0, D_245_16, k_245_16, R_245, v_aload_n, v_callV1, aft_v, aft_n, v_callVS1, g_if_eq, g_getfield, sv_a, rf_s, g_getfieldS, v_iload_n, v_callS2, g_ireturn, entL, getL, setL, kL_i, kL_r, isI_s, isR_s, isJ_s, gV_s, iV_i, cs0, cs1, cs2, cs3, cs4, dn_nil, kd_si, kd_sl, kd_sw, mr_si, mr_sl, mr_sw, ml_si, ml_sw, mi_sl, k1, h0, g, ↓if_neg z_1, if_neg z_1, m_306 (Or.inr k2) (show n < 2147483648 by omega) hk d1 d2, rC c4]
