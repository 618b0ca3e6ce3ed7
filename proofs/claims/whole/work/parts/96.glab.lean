-- ===== the grader: the label of a box, the report =====
theorem R_147 : PG.2.1 147 = (some .int) := rfl
theorem x_147 {E : String} : PG.2.2.1 147 E = none := rfl
theorem m_147n {i : Int32} {u d b c : Nat} {h : Mm} (G : GO h u d b c) (T : ST h b) (hl : h.mi 200 4 = 0) : dM PG 147 [.ref 200, .int i] h = some (.inr (exN 0), h.thr) := by
  rw [dM_of (Nat.le_of_ble_eq_true rfl)]
  simp -implicitDefEqProofs only [D_147_0, k_147_0, v_aload_n, v_iload_n, v_callV2, aft_v, aft_n, g_getfield, sv_o, rf_s, g_getfieldS, g_astore_n, g_astore_nN, g_iconst, sv_a, v_iaload, inI_0, g_pop_i, g_pop_r, g_bipush, g_icmp_ne, g_ldc_w, g_goto, entL, getL, setL, kL_i, kL_r, isI_s, isR_s, isJ_s, gV_s, iV_i, cs0, cs1, cs2, cs3, cs4, dn_nil, kd_si, kd_sl, kd_sw, mr_si, mr_sl, mr_sw, ml_si, ml_sw, mi_sl, go_k G, m_246n G T hl, aft_x (x_147)]
theorem m_147x {i : Int32} {u d b c : Nat} {h : Mm} (G : GO h u d b c) (T : ST h b) (hl : ¬ h.mi 200 4 = 0) (hi : i < 0 ∨ ¬ i < h.mi (b + 13) 0) : dM PG 147 [.ref 200, .int i] h = some (.inr (exN 1), h.thr) := by
  rw [dM_of (Nat.le_of_ble_eq_true rfl)]
  simp -implicitDefEqProofs only [D_147_0, k_147_0, v_aload_n, v_iload_n, v_callV2, aft_v, aft_n, g_getfield, sv_o, rf_s, g_getfieldS, g_astore_n, g_astore_nN, g_iconst, sv_a, v_iaload, inI_0, g_pop_i, g_pop_r, g_bipush, g_icmp_ne, g_ldc_w, g_goto, entL, getL, setL, kL_i, kL_r, isI_s, isR_s, isJ_s, gV_s, iV_i, cs0, cs1, cs2, cs3, cs4, dn_nil, kd_si, kd_sl, kd_sw, mr_si, mr_sl, mr_sw, ml_si, ml_sw, mi_sl, go_k G, m_246x G T hl hi, aft_x (x_147)]
def lbT (nm : Nat) (nc : Nat → Nat) (w wn e en : Nat) (ic : Option (Nat × Nat)) (t : Tt) : Tt := match ic with
  | none => tS 4 (wC "wait") (tC 32 (tN e en (tC 43 (tN w wn (tC 32 (tS nm nc t))))))
  | some (i, n) => tN i n (tS 3 (wC "ice") (tC 32 (tN e en (tC 43 (tN w wn (tC 32 (tS nm nc t)))))))
theorem m_147y {k kk w wn ex en p q nm : Nat} {nc : Nat → Nat} (hk : k < 80) (hkk : kk < 4) {u d b c : Nat} {h : Mm} {v cap len : Nat} {cs : Nat → Nat} (hz : 291 ≤ h.sz) (hbz : b + 19 ≤ h.sz) (hb : b + 19 ≤ 274 ∨ 274 < b) (hu : u + 7 ≤ 216) (hv : 200 ≤ v) (hvb : v < b ∨ b + 19 ≤ v) (hvu : v < u ∨ u + 7 ≤ v) (G : GO h u d b c) (U : SU h u) (T : ST h b) (D : DIG h) (WS : WST h) (H : SBx h 274 v cap len cs) (hl : ¬ h.mi 200 4 = 0) (e : Int32.ofNat k < h.mi (b + 13) 0) (h14 : h.mi (b + 14) k = Int32.ofNat kk) (h15 : h.mi (b + 15) k = Int32.ofNat w) (hex : exF (rowsAt h b) k = Int32.ofNat ex) (hwn : dgK w wn) (hw : w < 1000000000) (hen : dgK ex en) (hex2 : ex < 1000000000) (hp : h.mr (u + 3 + kk) 0 = some p) (SP : STR h p q nm nc) (hnm : nm ≤ 9) (hp2 : p < h.sz) (hq2 : q < h.sz) (hps : p ≠ 274) (hpv : p ≠ v) (hqs : q ≠ 274) (hqv : q ≠ v) (ic : Option (Nat × Nat)) (hic : match ic with | none => h.mi (b + 18) k = -1 | some (i, n) => h.mi (b + 18) k = Int32.ofNat i ∧ dgK i n ∧ i < 1000000000) : ∃ h', dM PG 147 [.ref 200, .int (Int32.ofNat k)] h = some (.inl (some (.int (Int32.ofNat (lbT nm nc w wn ex en ic (0, cs)).1))), h') ∧ Tx h h' v cap (lbT nm nc w wn ex en ic (0, cs)) := by
  have a : ¬ Int32.ofNat k < 0 := i32_0n (by omega)
  have wn9 := dgK_10 hwn hw
  have en9 := dgK_10 hen hex2
  have b_1 : inb (Int32.ofNat (k)) 80 = true := inb_nat (by omega) (by decide)
  have n_1 : (Int32.ofNat (k)).toNatClampNeg = k := i32_nat (by omega)
  obtain ⟨h1, g1, T1⟩ := tx_0 H
  obtain ⟨h2, g2, T2⟩ := tx_s T1 (by show 0 + nm ≤ 300; omega) SP hp2 hq2 hps hpv hqs hqv
  obtain ⟨h3, g3, T3⟩ := tx_c (x := 32) T2 (by show 0 + nm + 1 ≤ 300; omega) (by decide)
  obtain ⟨h4, g4, T4⟩ := tx_n T3 (by omega) hv D hwn hw (by show 0 + nm + 1 + wn ≤ 300; omega)
  obtain ⟨h5, g5, T5⟩ := tx_c (x := 43) T4 (by show 0 + nm + 1 + wn + 1 ≤ 300; omega) (by decide)
  obtain ⟨h6, g6, T6⟩ := tx_n T5 (by omega) hv D hen hex2 (by show 0 + nm + 1 + wn + 1 + en ≤ 300; omega)
  obtain ⟨h7, g7, T7⟩ := tx_c (x := 32) T6 (by show 0 + nm + 1 + wn + 1 + en + 1 ≤ 300; omega) (by decide)
  have c32 : Int32.ofNat 32 = 32 := rfl
  have c43 : Int32.ofNat 43 = 43 := rfl
  rw [c32] at g3 g7
  rw [c43] at g5
  have G1 := tx_go T1 (by omega) G
  have G2 := tx_go T2 (by omega) G
  have G4 := tx_go T4 (by omega) G
  have G7 := tx_go T7 (by omega) G
  have S1 := tx_st T1 hbz hb T
  have S3 := tx_st T3 hbz hb T
  have S5 := tx_st T5 hbz hb T
  have S7 := tx_st T7 hbz hb T
  have U1 := tx_su T1 (by omega) (by omega) U
  have kk1 := su_kk hkk U1
  have ks1 : h1.kd 274 = some (.inl 10) := go_k274 G1
  have ks2 : h2.kd 274 = some (.inl 10) := go_k274 G2
  have ks3 : h3.kd 274 = some (.inl 10) := go_k274 (tx_go T3 (by omega) G)
  have ks4 : h4.kd 274 = some (.inl 10) := go_k274 G4
  have ks5 : h5.kd 274 = some (.inl 10) := go_k274 (tx_go T5 (by omega) G)
  have ks6 : h6.kd 274 = some (.inl 10) := go_k274 (tx_go T6 (by omega) G)
  have ks7 : h7.kd 274 = some (.inl 10) := go_k274 G7
  have p1 : h1.mr (u + 3 + kk) 0 = some p := by rw [tx_mr T1 (by omega) (by omega), hp]
  have r14 : h1.mi (b + 14) k = Int32.ofNat kk := by rw [tx_mi T1 (by omega) (by omega) (by omega), h14]
  have r15 : h3.mi (b + 15) k = Int32.ofNat w := by rw [tx_mi T3 (by omega) (by omega) (by omega), h15]
  have r18 : h7.mi (b + 18) k = h.mi (b + 18) k := by rw [tx_mi T7 (by omega) (by omega) (by omega)]
  have gx := m_248 hk S5 (R := rowsAt h b)
  rw [tx_sb T5 hbz hb hvb, hex] at gx
  have g247 := m_247 hkk U1
  cases ic with
  | none =>
    obtain ⟨h8, g8, T8⟩ := tx_s T7 (by show 0 + nm + 1 + wn + 1 + en + 1 + 4 ≤ 300; omega) WS.1 (by omega) (by omega) (by decide) (by omega) (by decide) (by omega)
    have G8 := tx_go T8 (by omega) G
    have g9 := tx_len T8
    refine ⟨h8, ?_, T8⟩
    have hic' : h7.mi (b + 18) k = -1 := r18.trans hic
    rw [dM_of (Nat.le_of_ble_eq_true rfl)]
    simp -implicitDefEqProofs only [D_147_0, k_147_0, D_147_111, k_147_111, D_147_131, k_147_131, R_147, v_aload_n, v_iload_n, v_callV2, aft_v, aft_n, g_getfield, sv_o, rf_s, g_getfieldS, g_astore_n, g_astore_nN, g_iconst, sv_a, v_iaload, inI_0, g_pop_i, g_pop_r, g_bipush, g_icmp_ne, g_ldc_w, g_goto, v_callV1, g_ireturn, entL, getL, setL, kL_i, kL_r, isI_s, isR_s, isJ_s, gV_s, iV_i, cs0, cs1, cs2, cs3, cs4, dn_nil, kd_si, kd_sl, kd_sw, mr_si, mr_sl, mr_sw, ml_si, ml_sw, mi_sl, go_k G, go_r0 G, go_r5 G, go_r6 G, go_r7 G, go_r8 G, go_r10 G, go_r12 G, go_r13 G, go_r14 G, go_k201 G, go_k273 G, go_k274 G, go_k276 G, st_k T, st_r6 T, st_r7 T, st_r8 T, st_r9 T, st_r10 T, st_r11 T, st_r12 T, st_r13 T, st_k1 T, st_k2 T, st_k3 T, st_k4 T, st_k5 T, st_k6 T, st_ki T, st_i2 T, st_i3 T, st_i4 T, st_i5 T, st_i6 T, st_k8 T, st_k9 T, st_k10 T, st_k11 T, st_k12 T, st_kb T, st_b2 T, st_b3 T, st_b4 T, st_b5 T, st_b6 T, st_k14 T, st_k15 T, st_k16 T, st_k17 T, st_k18 T, m_246y G T hl a e, g1, go_k G1, go_r0 G1, go_r5 G1, go_r6 G1, go_r7 G1, go_r8 G1, go_r10 G1, go_r12 G1, go_r13 G1, go_r14 G1, go_k201 G1, go_k273 G1, go_k274 G1, go_k276 G1, st_k S1, st_r6 S1, st_r7 S1, st_r8 S1, st_r9 S1, st_r10 S1, st_r11 S1, st_r12 S1, st_r13 S1, st_k1 S1, st_k2 S1, st_k3 S1, st_k4 S1, st_k5 S1, st_k6 S1, st_ki S1, st_i2 S1, st_i3 S1, st_i4 S1, st_i5 S1, st_i6 S1, st_k8 S1, st_k9 S1, st_k10 S1, st_k11 S1, st_k12 S1, st_kb S1, st_b2 S1, st_b3 S1, st_b4 S1, st_b5 S1, st_b6 S1, st_k14 S1, st_k15 S1, st_k16 S1, st_k17 S1, st_k18 S1, b_1, n_1, r14, su_k U1, su_r9 U1, su_r10 U1, su_r12 U1, su_r13 U1, su_r14 U1, su_r15 U1, su_k1 U1, su_k2 U1, su_k3 U1, su_k4 U1, su_k5 U1, su_k6 U1, g247, kk1, p1, ks1, g2, go_k G2, go_r0 G2, go_r5 G2, go_r6 G2, go_r7 G2, go_r8 G2, go_r10 G2, go_r12 G2, go_r13 G2, go_r14 G2, go_k201 G2, go_k273 G2, go_k274 G2, go_k276 G2, g3, ks3, st_k S3, st_r6 S3, st_r7 S3, st_r8 S3, st_r9 S3, st_r10 S3, st_r11 S3, st_r12 S3, st_r13 S3, st_k1 S3, st_k2 S3, st_k3 S3, st_k4 S3, st_k5 S3, st_k6 S3, st_ki S3, st_i2 S3, st_i3 S3, st_i4 S3, st_i5 S3, st_i6 S3, st_k8 S3, st_k9 S3, st_k10 S3, st_k11 S3, st_k12 S3, st_kb S3, st_b2 S3, st_b3 S3, st_b4 S3, st_b5 S3, st_b6 S3, st_k14 S3, st_k15 S3, st_k16 S3, st_k17 S3, st_k18 S3, r15, g4, go_k G4, go_r0 G4, go_r5 G4, go_r6 G4, go_r7 G4, go_r8 G4, go_r10 G4, go_r12 G4, go_r13 G4, go_r14 G4, go_k201 G4, go_k273 G4, go_k274 G4, go_k276 G4, g5, ks5, st_k S5, st_r6 S5, st_r7 S5, st_r8 S5, st_r9 S5, st_r10 S5, st_r11 S5, st_r12 S5, st_r13 S5, st_k1 S5, st_k2 S5, st_k3 S5, st_k4 S5, st_k5 S5, st_k6 S5, st_ki S5, st_i2 S5, st_i3 S5, st_i4 S5, st_i5 S5, st_i6 S5, st_k8 S5, st_k9 S5, st_k10 S5, st_k11 S5, st_k12 S5, st_kb S5, st_b2 S5, st_b3 S5, st_b4 S5, st_b5 S5, st_b6 S5, st_k14 S5, st_k15 S5, st_k16 S5, st_k17 S5, st_k18 S5, gx, g6, ks6, g7, st_k S7, st_r6 S7, st_r7 S7, st_r8 S7, st_r9 S7, st_r10 S7, st_r11 S7, st_r12 S7, st_r13 S7, st_k1 S7, st_k2 S7, st_k3 S7, st_k4 S7, st_k5 S7, st_k6 S7, st_ki S7, st_i2 S7, st_i3 S7, st_i4 S7, st_i5 S7, st_i6 S7, st_k8 S7, st_k9 S7, st_k10 S7, st_k11 S7, st_k12 S7, st_kb S7, st_b2 S7, st_b3 S7, st_b4 S7, st_b5 S7, st_b6 S7, st_k14 S7, st_k15 S7, st_k16 S7, st_k17 S7, st_k18 S7, hic', ↓if_true, if_true, go_k G7, go_r0 G7, go_r5 G7, go_r6 G7, go_r7 G7, go_r8 G7, go_r10 G7, go_r12 G7, go_r13 G7, go_r14 G7, go_k201 G7, go_k273 G7, go_k274 G7, go_k276 G7, g8, go_k G8, go_r0 G8, go_r5 G8, go_r6 G8, go_r7 G8, go_r8 G8, go_r10 G8, go_r12 G8, go_r13 G8, go_r14 G8, go_k201 G8, go_k273 G8, go_k274 G8, go_k276 G8, g9, retX_int]
    rfl
  | some q2 =>
    obtain ⟨i, n⟩ := q2
    obtain ⟨hi1, hi2, hi3⟩ := hic
    have n9 := dgK_10 hi2 hi3
    obtain ⟨h8, g8, T8⟩ := tx_s T7 (by show 0 + nm + 1 + wn + 1 + en + 1 + 3 ≤ 300; omega) WS.2.1 (by omega) (by omega) (by decide) (by omega) (by decide) (by omega)
    obtain ⟨h9, g9, T9⟩ := tx_n T8 (by omega) hv D hi2 hi3 (by show 0 + nm + 1 + wn + 1 + en + 1 + 3 + n ≤ 300; omega)
    have G9 := tx_go T9 (by omega) G
    have S8 := tx_st T8 hbz hb T
    have ks8 : h8.kd 274 = some (.inl 10) := go_k274 (tx_go T8 (by omega) G)
    have r18' : h8.mi (b + 18) k = Int32.ofNat i := by rw [tx_mi T8 (by omega) (by omega) (by omega), hi1]
    have g10 := tx_len T9
    refine ⟨h9, ?_, T9⟩
    have hic' : ¬ h7.mi (b + 18) k = -1 := by rw [r18, hi1]; exact oN_s (by omega)
    rw [dM_of (Nat.le_of_ble_eq_true rfl)]
    simp -implicitDefEqProofs only [D_147_0, k_147_0, D_147_111, k_147_111, D_147_131, k_147_131, R_147, v_aload_n, v_iload_n, v_callV2, aft_v, aft_n, g_getfield, sv_o, rf_s, g_getfieldS, g_astore_n, g_astore_nN, g_iconst, sv_a, v_iaload, inI_0, g_pop_i, g_pop_r, g_bipush, g_icmp_ne, g_ldc_w, g_goto, v_callV1, g_ireturn, entL, getL, setL, kL_i, kL_r, isI_s, isR_s, isJ_s, gV_s, iV_i, cs0, cs1, cs2, cs3, cs4, dn_nil, kd_si, kd_sl, kd_sw, mr_si, mr_sl, mr_sw, ml_si, ml_sw, mi_sl, go_k G, go_r0 G, go_r5 G, go_r6 G, go_r7 G, go_r8 G, go_r10 G, go_r12 G, go_r13 G, go_r14 G, go_k201 G, go_k273 G, go_k274 G, go_k276 G, st_k T, st_r6 T, st_r7 T, st_r8 T, st_r9 T, st_r10 T, st_r11 T, st_r12 T, st_r13 T, st_k1 T, st_k2 T, st_k3 T, st_k4 T, st_k5 T, st_k6 T, st_ki T, st_i2 T, st_i3 T, st_i4 T, st_i5 T, st_i6 T, st_k8 T, st_k9 T, st_k10 T, st_k11 T, st_k12 T, st_kb T, st_b2 T, st_b3 T, st_b4 T, st_b5 T, st_b6 T, st_k14 T, st_k15 T, st_k16 T, st_k17 T, st_k18 T, m_246y G T hl a e, g1, go_k G1, go_r0 G1, go_r5 G1, go_r6 G1, go_r7 G1, go_r8 G1, go_r10 G1, go_r12 G1, go_r13 G1, go_r14 G1, go_k201 G1, go_k273 G1, go_k274 G1, go_k276 G1, st_k S1, st_r6 S1, st_r7 S1, st_r8 S1, st_r9 S1, st_r10 S1, st_r11 S1, st_r12 S1, st_r13 S1, st_k1 S1, st_k2 S1, st_k3 S1, st_k4 S1, st_k5 S1, st_k6 S1, st_ki S1, st_i2 S1, st_i3 S1, st_i4 S1, st_i5 S1, st_i6 S1, st_k8 S1, st_k9 S1, st_k10 S1, st_k11 S1, st_k12 S1, st_kb S1, st_b2 S1, st_b3 S1, st_b4 S1, st_b5 S1, st_b6 S1, st_k14 S1, st_k15 S1, st_k16 S1, st_k17 S1, st_k18 S1, b_1, n_1, r14, su_k U1, su_r9 U1, su_r10 U1, su_r12 U1, su_r13 U1, su_r14 U1, su_r15 U1, su_k1 U1, su_k2 U1, su_k3 U1, su_k4 U1, su_k5 U1, su_k6 U1, g247, kk1, p1, ks1, g2, go_k G2, go_r0 G2, go_r5 G2, go_r6 G2, go_r7 G2, go_r8 G2, go_r10 G2, go_r12 G2, go_r13 G2, go_r14 G2, go_k201 G2, go_k273 G2, go_k274 G2, go_k276 G2, g3, ks3, st_k S3, st_r6 S3, st_r7 S3, st_r8 S3, st_r9 S3, st_r10 S3, st_r11 S3, st_r12 S3, st_r13 S3, st_k1 S3, st_k2 S3, st_k3 S3, st_k4 S3, st_k5 S3, st_k6 S3, st_ki S3, st_i2 S3, st_i3 S3, st_i4 S3, st_i5 S3, st_i6 S3, st_k8 S3, st_k9 S3, st_k10 S3, st_k11 S3, st_k12 S3, st_kb S3, st_b2 S3, st_b3 S3, st_b4 S3, st_b5 S3, st_b6 S3, st_k14 S3, st_k15 S3, st_k16 S3, st_k17 S3, st_k18 S3, r15, g4, go_k G4, go_r0 G4, go_r5 G4, go_r6 G4, go_r7 G4, go_r8 G4, go_r10 G4, go_r12 G4, go_r13 G4, go_r14 G4, go_k201 G4, go_k273 G4, go_k274 G4, go_k276 G4, g5, ks5, st_k S5, st_r6 S5, st_r7 S5, st_r8 S5, st_r9 S5, st_r10 S5, st_r11 S5, st_r12 S5, st_r13 S5, st_k1 S5, st_k2 S5, st_k3 S5, st_k4 S5, st_k5 S5, st_k6 S5, st_ki S5, st_i2 S5, st_i3 S5, st_i4 S5, st_i5 S5, st_i6 S5, st_k8 S5, st_k9 S5, st_k10 S5, st_k11 S5, st_k12 S5, st_kb S5, st_b2 S5, st_b3 S5, st_b4 S5, st_b5 S5, st_b6 S5, st_k14 S5, st_k15 S5, st_k16 S5, st_k17 S5, st_k18 S5, gx, g6, ks6, g7, st_k S7, st_r6 S7, st_r7 S7, st_r8 S7, st_r9 S7, st_r10 S7, st_r11 S7, st_r12 S7, st_r13 S7, st_k1 S7, st_k2 S7, st_k3 S7, st_k4 S7, st_k5 S7, st_k6 S7, st_ki S7, st_i2 S7, st_i3 S7, st_i4 S7, st_i5 S7, st_i6 S7, st_k8 S7, st_k9 S7, st_k10 S7, st_k11 S7, st_k12 S7, st_kb S7, st_b2 S7, st_b3 S7, st_b4 S7, st_b5 S7, st_b6 S7, st_k14 S7, st_k15 S7, st_k16 S7, st_k17 S7, st_k18 S7, ↓if_neg hic', if_neg hic', go_k G7, go_r0 G7, go_r5 G7, go_r6 G7, go_r7 G7, go_r8 G7, go_r10 G7, go_r12 G7, go_r13 G7, go_r14 G7, go_k201 G7, go_k273 G7, go_k274 G7, go_k276 G7, g8, ks8, st_k S8, st_r6 S8, st_r7 S8, st_r8 S8, st_r9 S8, st_r10 S8, st_r11 S8, st_r12 S8, st_r13 S8, st_k1 S8, st_k2 S8, st_k3 S8, st_k4 S8, st_k5 S8, st_k6 S8, st_ki S8, st_i2 S8, st_i3 S8, st_i4 S8, st_i5 S8, st_i6 S8, st_k8 S8, st_k9 S8, st_k10 S8, st_k11 S8, st_k12 S8, st_kb S8, st_b2 S8, st_b3 S8, st_b4 S8, st_b5 S8, st_b6 S8, st_k14 S8, st_k15 S8, st_k16 S8, st_k17 S8, st_k18 S8, r18', g9, go_k G9, go_r0 G9, go_r5 G9, go_r6 G9, go_r7 G9, go_r8 G9, go_r10 G9, go_r12 G9, go_r13 G9, go_r14 G9, go_k201 G9, go_k273 G9, go_k274 G9, go_k276 G9, g10, retX_int]
    rfl
