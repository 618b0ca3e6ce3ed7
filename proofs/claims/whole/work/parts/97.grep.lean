-- ===== the grader: the report =====
/-- the numbers of a species in a report, with their digits -/
def rsT (nm : Nat) (nc : Nat → Nat) (ct ctn tg tgn ex exn la lan qu qun er ern : Nat) (t : Tt) : Tt := tC 59 (tN er ern (tC 32 (tN qu qun (tC 47 (tN la lan (tC 32 (tN ex exn (tC 32 (tN tg tgn (tC 120 (tN ct ctn (tC 32 (tS nm nc t)))))))))))))
def rsL (nm ctn tgn exn lan qun ern : Nat) : Nat := nm + 1 + ctn + 1 + tgn + 1 + exn + 1 + lan + 1 + qun + 1 + ern + 1
def num (x n : Nat) : Prop := dgK x n ∧ x < 1000000000
theorem R_238 : PG.2.1 238 = none := rfl
theorem m_238 {k p q nm ct ctn tg tgn ex exn la lan qu qun er ern n : Nat} {nc : Nat → Nat} (hk : k < 4) (hn : n ≤ 80) {u d b c : Nat} {h0 h : Mm} {v cap : Nat} {t : Tt} (hz : 291 ≤ h0.sz) (hbz : b + 19 ≤ h0.sz) (hub : u + 7 ≤ b) (hb : b + 19 ≤ 274 ∨ 274 < b) (hu : u + 7 ≤ 216) (hv : 200 ≤ v) (hvb : v < b ∨ b + 19 ≤ v) (hvu : v < u ∨ u + 7 ≤ v) (G : GO h0 u d b c) (U : SU h0 u) (T : ST h0 b) (D : DIG h0) (T0 : Tx h0 h v cap t) (hp : h0.mr (u + 3 + k) 0 = some p) (SP : STR h0 p q nm nc) (hp2 : p < h0.sz) (hq2 : q < h0.sz) (hps : p ≠ 274) (hpv : p ≠ v) (hqs : q ≠ 274) (hqv : q ≠ v) (hn13 : h0.mi (b + 13) 0 = Int32.ofNat n) (e1 : fl (cnO (rowsAt h0 b) (Int32.ofNat k)) n 0 0 = Int32.ofNat ct) (N1 : num ct ctn) (e2 : h0.mi (b + 2) k = Int32.ofNat tg) (N2 : num tg tgn) (e3 : fl (exO (rowsAt h0 b) (Int32.ofNat k)) n 0 0 = Int32.ofNat ex) (N3 : num ex exn) (e4 : h0.mi (b + 4) k = Int32.ofNat la) (N4 : num la lan) (e5 : h0.mi (b + 3) k = Int32.ofNat qu) (N5 : num qu qun) (e6 : erF (h0.mi u 6) (h0.mi (u + 3 + k) 2) (rowsAt h0 b) k n = Int32.ofNat er) (N6 : num er ern) (hm : t.1 + rsL nm ctn tgn exn lan qun ern ≤ 300) : ∃ h', dM PG 238 [.ref 200, .int (Int32.ofNat k)] h = some (.inl none, h') ∧ Tx h0 h' v cap (rsT nm nc ct ctn tg tgn ex exn la lan qu qun er ern t) := by
  unfold rsL at hm
  have b_1 : inb (Int32.ofNat (k)) 4 = true := inb_nat (by omega) (by decide)
  have n_1 : (Int32.ofNat (k)).toNatClampNeg = k := i32_nat (by omega)
  obtain ⟨h1, g1, T1⟩ := tx_s T0 (by show t.1 + nm ≤ 300; omega) SP hp2 hq2 hps hpv hqs hqv
  obtain ⟨h2, g2, T2⟩ := tx_c (x := 32) T1 (by show t.1 + nm + 1 ≤ 300; omega) (by decide)
  rw [show Int32.ofNat 32 = 32 from rfl] at g2
  obtain ⟨h3, g3, T3⟩ := tx_n T2 (by omega) hv D N1.1 N1.2 (by show t.1 + nm + 1 + ctn ≤ 300; omega)
  obtain ⟨h4, g4, T4⟩ := tx_c (x := 120) T3 (by show t.1 + nm + 1 + ctn + 1 ≤ 300; omega) (by decide)
  rw [show Int32.ofNat 120 = 120 from rfl] at g4
  obtain ⟨h5, g5, T5⟩ := tx_n T4 (by omega) hv D N2.1 N2.2 (by show t.1 + nm + 1 + ctn + 1 + tgn ≤ 300; omega)
  obtain ⟨h6, g6, T6⟩ := tx_c (x := 32) T5 (by show t.1 + nm + 1 + ctn + 1 + tgn + 1 ≤ 300; omega) (by decide)
  rw [show Int32.ofNat 32 = 32 from rfl] at g6
  obtain ⟨h7, g7, T7⟩ := tx_n T6 (by omega) hv D N3.1 N3.2 (by show t.1 + nm + 1 + ctn + 1 + tgn + 1 + exn ≤ 300; omega)
  obtain ⟨h8, g8, T8⟩ := tx_c (x := 32) T7 (by show t.1 + nm + 1 + ctn + 1 + tgn + 1 + exn + 1 ≤ 300; omega) (by decide)
  rw [show Int32.ofNat 32 = 32 from rfl] at g8
  obtain ⟨h9, g9, T9⟩ := tx_n T8 (by omega) hv D N4.1 N4.2 (by show t.1 + nm + 1 + ctn + 1 + tgn + 1 + exn + 1 + lan ≤ 300; omega)
  obtain ⟨h10, g10, T10⟩ := tx_c (x := 47) T9 (by show t.1 + nm + 1 + ctn + 1 + tgn + 1 + exn + 1 + lan + 1 ≤ 300; omega) (by decide)
  rw [show Int32.ofNat 47 = 47 from rfl] at g10
  obtain ⟨h11, g11, T11⟩ := tx_n T10 (by omega) hv D N5.1 N5.2 (by show t.1 + nm + 1 + ctn + 1 + tgn + 1 + exn + 1 + lan + 1 + qun ≤ 300; omega)
  obtain ⟨h12, g12, T12⟩ := tx_c (x := 32) T11 (by show t.1 + nm + 1 + ctn + 1 + tgn + 1 + exn + 1 + lan + 1 + qun + 1 ≤ 300; omega) (by decide)
  rw [show Int32.ofNat 32 = 32 from rfl] at g12
  obtain ⟨h13, g13, T13⟩ := tx_n T12 (by omega) hv D N6.1 N6.2 (by show t.1 + nm + 1 + ctn + 1 + tgn + 1 + exn + 1 + lan + 1 + qun + 1 + ern ≤ 300; omega)
  obtain ⟨h14, g14, T14⟩ := tx_c (x := 59) T13 (by show t.1 + nm + 1 + ctn + 1 + tgn + 1 + exn + 1 + lan + 1 + qun + 1 + ern + 1 ≤ 300; omega) (by decide)
  rw [show Int32.ofNat 59 = 59 from rfl] at g14
  have G0 := tx_go T0 (by omega) G
  have S0 := tx_st T0 hbz hb T
  have G1 := tx_go T1 (by omega) G
  have S1 := tx_st T1 hbz hb T
  have G2 := tx_go T2 (by omega) G
  have S2 := tx_st T2 hbz hb T
  have G3 := tx_go T3 (by omega) G
  have S3 := tx_st T3 hbz hb T
  have G4 := tx_go T4 (by omega) G
  have S4 := tx_st T4 hbz hb T
  have G5 := tx_go T5 (by omega) G
  have S5 := tx_st T5 hbz hb T
  have G6 := tx_go T6 (by omega) G
  have S6 := tx_st T6 hbz hb T
  have G7 := tx_go T7 (by omega) G
  have S7 := tx_st T7 hbz hb T
  have G8 := tx_go T8 (by omega) G
  have S8 := tx_st T8 hbz hb T
  have G9 := tx_go T9 (by omega) G
  have S9 := tx_st T9 hbz hb T
  have G10 := tx_go T10 (by omega) G
  have S10 := tx_st T10 hbz hb T
  have G11 := tx_go T11 (by omega) G
  have S11 := tx_st T11 hbz hb T
  have G12 := tx_go T12 (by omega) G
  have S12 := tx_st T12 hbz hb T
  have G13 := tx_go T13 (by omega) G
  have S13 := tx_st T13 hbz hb T
  have G14 := tx_go T14 (by omega) G
  have S14 := tx_st T14 hbz hb T
  have U0 := tx_su T0 (by omega) (by omega) U
  have U12 := tx_su T12 (by omega) (by omega) U
  have g247 := m_247 hk U0
  have kk0 := su_kk hk U0
  have p1 : h.mr (u + 3 + k) 0 = some p := by rw [tx_mr T0 (by omega) (by omega), hp]
  have q1 := m_279 (x := Int32.ofNat k) hn S2 (R := rowsAt h0 b) hn13
  rw [tx_sb T2 hbz hb hvb, e1] at q1
  have r2 : h4.mi (b + 2) k = Int32.ofNat tg := by rw [tx_mi T4 (by omega) (by omega) (by omega), e2]
  have q3 := m_280 (x := Int32.ofNat k) hn S6 (R := rowsAt h0 b) hn13
  rw [tx_sb T6 hbz hb hvb, e3] at q3
  have r4 : h8.mi (b + 4) k = Int32.ofNat la := by rw [tx_mi T8 (by omega) (by omega) (by omega), e4]
  have r5 : h10.mi (b + 3) k = Int32.ofNat qu := by rw [tx_mi T10 (by omega) (by omega) (by omega), e5]
  have q6 := m_282 hub hk hn S12 U12 (R := rowsAt h0 b) hn13
  rw [tx_sb T12 hbz hb hvb, tx_mi T12 (show u < h0.sz by omega) (by omega) (by omega), tx_mi T12 (show u + 3 + k < h0.sz by omega) (by omega) (by omega), e6] at q6
  refine ⟨h14, ?_, T14⟩
  rw [dM_of (Nat.le_of_ble_eq_true rfl)]
  simp -implicitDefEqProofs only [D_238_0, k_238_0, R_238, v_aload_n, g_getfield, sv_o, rf_s, g_getfieldS, v_iload_n, v_callV2, aft_v, aft_n, g_pop_i, g_pop_r, g_bipush, sv_a, v_iaload, inI_0, v_callV3, g_return, entL, getL, setL, kL_i, kL_r, isI_s, isR_s, isJ_s, gV_s, iV_i, cs0, cs1, cs2, cs3, cs4, dn_nil, kd_si, kd_sl, kd_sw, mr_si, mr_sl, mr_sw, ml_si, ml_sw, mi_sl, go_k G0, go_r0 G0, go_r5 G0, go_r6 G0, go_r7 G0, go_r8 G0, go_r10 G0, go_r12 G0, go_r13 G0, go_r14 G0, go_k201 G0, go_k273 G0, go_k274 G0, go_k276 G0, st_k S0, st_r6 S0, st_r7 S0, st_r8 S0, st_r9 S0, st_r10 S0, st_r11 S0, st_r12 S0, st_r13 S0, st_k1 S0, st_k2 S0, st_k3 S0, st_k4 S0, st_k5 S0, st_k6 S0, st_ki S0, st_i2 S0, st_i3 S0, st_i4 S0, st_i5 S0, st_i6 S0, st_k8 S0, st_k9 S0, st_k10 S0, st_k11 S0, st_k12 S0, st_kb S0, st_b2 S0, st_b3 S0, st_b4 S0, st_b5 S0, st_b6 S0, st_k14 S0, st_k15 S0, st_k16 S0, st_k17 S0, st_k18 S0, su_k U0, su_r9 U0, su_r10 U0, su_r12 U0, su_r13 U0, su_r14 U0, su_r15 U0, su_k1 U0, su_k2 U0, su_k3 U0, su_k4 U0, su_k5 U0, su_k6 U0, g247, kk0, p1, g1, g2, q1, g3, g4, r2, g5, g6, q3, g7, g8, r4, g9, g10, r5, g11, g12, q6, g13, g14, b_1, n_1, go_k G1, go_r13 G1, go_r7 G1, go_r5 G1, go_k274 G1, st_k S1, st_r13 S1, st_kb S1, st_r7 S1, st_r8 S1, st_r9 S1, st_k2 S1, st_k3 S1, st_k4 S1, go_k G2, go_r13 G2, go_r7 G2, go_r5 G2, go_k274 G2, st_k S2, st_r13 S2, st_kb S2, st_r7 S2, st_r8 S2, st_r9 S2, st_k2 S2, st_k3 S2, st_k4 S2, go_k G3, go_r13 G3, go_r7 G3, go_r5 G3, go_k274 G3, st_k S3, st_r13 S3, st_kb S3, st_r7 S3, st_r8 S3, st_r9 S3, st_k2 S3, st_k3 S3, st_k4 S3, go_k G4, go_r13 G4, go_r7 G4, go_r5 G4, go_k274 G4, st_k S4, st_r13 S4, st_kb S4, st_r7 S4, st_r8 S4, st_r9 S4, st_k2 S4, st_k3 S4, st_k4 S4, go_k G5, go_r13 G5, go_r7 G5, go_r5 G5, go_k274 G5, st_k S5, st_r13 S5, st_kb S5, st_r7 S5, st_r8 S5, st_r9 S5, st_k2 S5, st_k3 S5, st_k4 S5, go_k G6, go_r13 G6, go_r7 G6, go_r5 G6, go_k274 G6, st_k S6, st_r13 S6, st_kb S6, st_r7 S6, st_r8 S6, st_r9 S6, st_k2 S6, st_k3 S6, st_k4 S6, go_k G7, go_r13 G7, go_r7 G7, go_r5 G7, go_k274 G7, st_k S7, st_r13 S7, st_kb S7, st_r7 S7, st_r8 S7, st_r9 S7, st_k2 S7, st_k3 S7, st_k4 S7, go_k G8, go_r13 G8, go_r7 G8, go_r5 G8, go_k274 G8, st_k S8, st_r13 S8, st_kb S8, st_r7 S8, st_r8 S8, st_r9 S8, st_k2 S8, st_k3 S8, st_k4 S8, go_k G9, go_r13 G9, go_r7 G9, go_r5 G9, go_k274 G9, st_k S9, st_r13 S9, st_kb S9, st_r7 S9, st_r8 S9, st_r9 S9, st_k2 S9, st_k3 S9, st_k4 S9, go_k G10, go_r13 G10, go_r7 G10, go_r5 G10, go_k274 G10, st_k S10, st_r13 S10, st_kb S10, st_r7 S10, st_r8 S10, st_r9 S10, st_k2 S10, st_k3 S10, st_k4 S10, go_k G11, go_r13 G11, go_r7 G11, go_r5 G11, go_k274 G11, st_k S11, st_r13 S11, st_kb S11, st_r7 S11, st_r8 S11, st_r9 S11, st_k2 S11, st_k3 S11, st_k4 S11, go_k G12, go_r13 G12, go_r7 G12, go_r5 G12, go_k274 G12, st_k S12, st_r13 S12, st_kb S12, st_r7 S12, st_r8 S12, st_r9 S12, st_k2 S12, st_k3 S12, st_k4 S12, go_k G13, go_r13 G13, go_r7 G13, go_r5 G13, go_k274 G13, st_k S13, st_r13 S13, st_kb S13, st_r7 S13, st_r8 S13, st_r9 S13, st_k2 S13, st_k3 S13, st_k4 S13, go_k G14, go_r13 G14, go_r7 G14, go_r5 G14, go_k274 G14, st_k S14, st_r13 S14, st_kb S14, st_r7 S14, st_r8 S14, st_r9 S14, st_k2 S14, st_k3 S14, st_k4 S14, su_k U12, su_r9 U12, su_r10 U12, su_r12 U12, su_r13 U12, su_r14 U12, su_r15 U12, su_k1 U12, su_k2 U12, su_k3 U12, su_k4 U12, su_k5 U12, su_k6 U12]
theorem lia {A : Type} {P : Pg} {y pc n o : Nat} {L : Nat → A → Lc → Lc} {K : Nat → A → Lc → Mm → Prop} {f : Nat → A → A}
    (hs : ∀ i a tl h, o ≤ i → i < n → K i a tl h → ∃ tl' h', K (i + 1) (f i a) tl' h' ∧ dB P y pc (L i a tl) [] h = dB P y pc (L (i + 1) (f i a) tl') [] h') : ∀ (d i : Nat) (a : A) (tl : Lc) (h : Mm), o ≤ i → i + d = n → K i a tl h → ∃ tl' h', K n (fl f d i a) tl' h' ∧ dB P y pc (L i a tl) [] h = dB P y pc (L n (fl f d i a) tl') [] h' := by
  intro d
  induction d with
  | zero =>
    intro i a tl h ho hi hK
    obtain rfl : i = n := by omega
    exact ⟨tl, h, hK, rfl⟩
  | succ d ih =>
    intro i a tl h ho hi hK
    obtain ⟨tl', h', hK', e⟩ := hs i a tl h ho (by omega) hK
    obtain ⟨tl2, h2, hK2, e2⟩ := ih (i + 1) (f i a) tl' h' (by omega) (by omega) hK'
    exact ⟨tl2, h2, hK2, e.trans e2⟩
/-- the numbers of all species -/
abbrev Rn : Type := Nat → Nat × Nat
def rsK (nm : Nat → Nat) (nc : Nat → Nat → Nat) (ct tg ex la qu er : Rn) (k : Nat) (t : Tt) : Tt := rsT (nm k) (nc k) (ct k).1 (ct k).2 (tg k).1 (tg k).2 (ex k).1 (ex k).2 (la k).1 (la k).2 (qu k).1 (qu k).2 (er k).1 (er k).2 t
theorem rsT_1 {nm ct ctn tg tgn ex exn la lan qu qun er ern : Nat} {nc : Nat → Nat} {t : Tt} : (rsT nm nc ct ctn tg tgn ex exn la lan qu qun er ern t).1 = t.1 + rsL nm ctn tgn exn lan qun ern := by
  show t.1 + nm + 1 + ctn + 1 + tgn + 1 + exn + 1 + lan + 1 + qun + 1 + ern + 1 = t.1 + (nm + 1 + ctn + 1 + tgn + 1 + exn + 1 + lan + 1 + qun + 1 + ern + 1)
  omega
theorem fl_congr {A : Type} {f g : Nat → A → A} : ∀ (d i : Nat) (a : A), (∀ j x, i ≤ j → j < i + d → f j x = g j x) → fl f d i a = fl g d i a := by
  intro d
  induction d with
  | zero => intro i a _; rfl
  | succ d ih =>
    intro i a h
    show fl f d (i + 1) (f i a) = fl g d (i + 1) (g i a)
    rw [h i a (Nat.le_refl _) (by omega)]
    exact ih (i + 1) _ (fun j x h1 h2 => h j x (by omega) (by omega))
theorem R_137 : PG.2.1 137 = (some .int) := rfl
theorem x_137 {E : String} : PG.2.2.1 137 E = none := rfl
theorem m_137n {u d b c : Nat} {h : Mm} (G : GO h u d b c) (hl : h.mi 200 4 = 0) : dM PG 137 [.ref 200] h = some (.inr (exN 0), h.thr) := by
  rw [dM_of (Nat.le_of_ble_eq_true rfl)]
  simp -implicitDefEqProofs only [D_137_0, k_137_0, v_aload_n, v_callV1, aft_v, aft_n, g_getfield, sv_o, rf_s, g_getfieldS, g_iconst, v_callV2, g_istore_n, entL, getL, setL, kL_i, kL_r, isI_s, isR_s, isJ_s, gV_s, iV_i, cs0, cs1, cs2, cs3, cs4, dn_nil, kd_si, kd_sl, kd_sw, mr_si, mr_sl, mr_sw, ml_si, ml_sw, mi_sl, go_k G, m_236n G hl, aft_x (x_137)]
theorem m_137y {n ns al aln cl cln : Nat} {nm : Nat → Nat} {nc : Nat → Nat → Nat} {ct tg ex la qu er : Rn} {pp qq : Nat → Nat} (hns : ns ≤ 4) (hn : n ≤ 80) {u d b c : Nat} {h : Mm} {v cap len : Nat} {cs : Nat → Nat} (hz : 291 ≤ h.sz) (hbz : b + 19 ≤ h.sz) (hub : u + 7 ≤ b) (hb : b + 19 ≤ 274 ∨ 274 < b) (hu : u + 7 ≤ 216) (hv : 200 ≤ v) (hvb : v < b ∨ b + 19 ≤ v) (hvu : v < u ∨ u + 7 ≤ v) (G : GO h u d b c) (U : SU h u) (T : ST h b) (D : DIG h) (WS : WST h) (H : SBx h 274 v cap len cs) (hl : ¬ h.mi 200 4 = 0) (h11 : h.mi u 11 = Int32.ofNat ns) (hn13 : h.mi (b + 13) 0 = Int32.ofNat n)
    (hK : ∀ k, k < ns → h.mr (u + 3 + k) 0 = some (pp k) ∧ STR h (pp k) (qq k) (nm k) (nc k) ∧ pp k < h.sz ∧ qq k < h.sz ∧ pp k ≠ 274 ∧ pp k ≠ v ∧ qq k ≠ 274 ∧ qq k ≠ v)
    (hN : ∀ k, k < ns → (fl (cnO (rowsAt h b) (Int32.ofNat k)) n 0 0 = Int32.ofNat (ct k).1 ∧ num (ct k).1 (ct k).2) ∧ (h.mi (b + 2) k = Int32.ofNat (tg k).1 ∧ num (tg k).1 (tg k).2) ∧ (fl (exO (rowsAt h b) (Int32.ofNat k)) n 0 0 = Int32.ofNat (ex k).1 ∧ num (ex k).1 (ex k).2) ∧ (h.mi (b + 4) k = Int32.ofNat (la k).1 ∧ num (la k).1 (la k).2) ∧ (h.mi (b + 3) k = Int32.ofNat (qu k).1 ∧ num (qu k).1 (qu k).2) ∧ (erF (h.mi u 6) (h.mi (u + 3 + k) 2) (rowsAt h b) k n = Int32.ofNat (er k).1 ∧ num (er k).1 (er k).2) ∧ rsL (nm k) (ct k).2 (tg k).2 (ex k).2 (la k).2 (qu k).2 (er k).2 ≤ 60)
    (hcl : num n cln) (hal : fl (eaS (h.mi u 6) (fun k => h.mi (u + 3 + k) 2) (rowsAt h b) n) ns 0 0 = Int32.ofNat al) (Nal : num al aln) : ∃ h', dM PG 137 [.ref 200] h = some (.inl (some (.int (Int32.ofNat (tN al aln (tC 32 (tN n cln (tS 4 (wC "all ") (fl (rsK nm nc ct tg ex la qu er) ns 0 (0, cs)))))).1))), h') ∧ Tx h h' v cap (tN al aln (tC 32 (tN n cln (tS 4 (wC "all ") (fl (rsK nm nc ct tg ex la qu er) ns 0 (0, cs)))))) := by
  obtain ⟨h1, g1, T1⟩ := tx_0 H
  obtain ⟨tl2, h2, ⟨T2, hl2⟩, e2⟩ := lia (P := PG) (y := 137) (pc := 14) (n := ns) (o := 0) (K := fun i t tl h' => Tx h h' v cap t ∧ t.1 ≤ 60 * i) (f := rsK nm nc ct tg ex la qu er) (L := fun k t tl => some (.ref 200) :: some (.int (Int32.ofNat k)) :: tl) (by
    intro k t tl h' _ hk hKK
    obtain ⟨Th, hlt⟩ := hKK
    obtain ⟨a1, a2, a3, a4, a5, a6, a7, a8⟩ := hK k hk
    obtain ⟨⟨b1, b1'⟩, ⟨b2, b2'⟩, ⟨b3, b3'⟩, ⟨b4, b4'⟩, ⟨b5, b5'⟩, ⟨b6, b6'⟩, b7⟩ := hN k hk
    obtain ⟨h3, g3, T3⟩ := m_238 (show k < 4 by omega) hn hz hbz hub hb hu hv hvb hvu G U T D Th a1 a2 a3 a4 a5 a6 a7 a8 hn13 b1 b1' b2 b2' b3 b3' b4 b4' b5 b5' b6 b6' (by omega)
    refine ⟨tl, h3, ⟨T3, ?_⟩, ?_⟩
    · unfold rsK
      rw [rsT_1]; omega
    · have Gh := tx_go Th (by omega) G
      have Uh := tx_su Th (by omega) (by omega) U
      have r11 : h'.mi u 11 = Int32.ofNat ns := by rw [tx_mi Th (by omega) (by omega) (by omega), h11]
      have ek : ¬ Int32.ofNat (ns) ≤ Int32.ofNat (k) := by rw [i32_le (by omega) (by omega)]; omega
      have s1 : Int32.ofNat (k) + 1 = Int32.ofNat (k + 1) := i32_add (b := 1)
      rw [D_137_14]
      simp -implicitDefEqProofs only [D_137_0, k_137_0, k_137_14, D_137_36, k_137_36, R_137, v_aload_n, v_callV1, aft_v, aft_n, g_getfield, sv_o, rf_s, g_getfieldS, g_iconst, v_callV2, g_istore_n, v_iload_n, sv_i, g_icmp_ge, v_iinc, g_goto, g_ldc_w, g_pop_i, g_pop_r, g_bipush, g_ireturn, entL, getL, setL, kL_i, kL_r, isI_s, isR_s, isJ_s, gV_s, iV_i, cs0, cs1, cs2, cs3, cs4, dn_nil, kd_si, kd_sl, kd_sw, mr_si, mr_sl, mr_sw, ml_si, ml_sw, mi_sl, go_k Gh, go_r0 Gh, go_r5 Gh, go_r6 Gh, go_r7 Gh, go_r8 Gh, go_r10 Gh, go_r12 Gh, go_r13 Gh, go_r14 Gh, go_k201 Gh, go_k273 Gh, go_k274 Gh, go_k276 Gh, su_k Uh, su_r9 Uh, su_r10 Uh, su_r12 Uh, su_r13 Uh, su_r14 Uh, su_r15 Uh, su_k1 Uh, su_k2 Uh, su_k3 Uh, su_k4 Uh, su_k5 Uh, su_k6 Uh, r11, ↓if_neg ek, if_neg ek, g3, s1]) ns 0 (0, cs) [] h1 (Nat.zero_le 0) (by omega) ⟨T1, Nat.le_refl 0⟩
  generalize fl (rsK nm nc ct tg ex la qu er) ns 0 (0, cs) = t2 at T2 hl2 ⊢
  have c9 := dgK_10 hcl.1 hcl.2
  have a9 := dgK_10 Nal.1 Nal.2
  obtain ⟨h3, g3, T3⟩ := tx_s T2 (by omega) WS.2.2 (by omega) (by omega) (by decide) (by omega) (by decide) (by omega)
  obtain ⟨h4, g4, T4⟩ := tx_n T3 (by omega) hv D hcl.1 hcl.2 (by show t2.1 + 4 + cln ≤ 300; omega)
  obtain ⟨h5, g5, T5⟩ := tx_c (x := 32) T4 (by show t2.1 + 4 + cln + 1 ≤ 300; omega) (by decide)
  obtain ⟨h6, g6, T6⟩ := tx_n T5 (by omega) hv D Nal.1 Nal.2 (by show t2.1 + 4 + cln + 1 + aln ≤ 300; omega)
  rw [show Int32.ofNat 32 = 32 from rfl] at g5
  have G1 := tx_go T1 (by omega) G
  have G2 := tx_go T2 (by omega) G
  have G3 := tx_go T3 (by omega) G
  have G4 := tx_go T4 (by omega) G
  have G5 := tx_go T5 (by omega) G
  have G6 := tx_go T6 (by omega) G
  have S3 := tx_st T3 hbz hb T
  have S5 := tx_st T5 hbz hb T
  have U5 := tx_su T5 (by omega) (by omega) U
  have U2 := tx_su T2 (by omega) (by omega) U
  have r2 : h2.mi u 11 = Int32.ofNat ns := by rw [tx_mi T2 (by omega) (by omega) (by omega), h11]
  have r3 : h3.mi (b + 13) 0 = Int32.ofNat n := by rw [tx_mi T3 (by omega) (by omega) (by omega), hn13]
  have q5 := m_242 hub hns hn S5 U5 (R := rowsAt h b) hn13 (by rw [tx_mi T5 (by omega) (by omega) (by omega), h11])
  have q5' : dM PG 242 [.ref b, .ref u] h5 = some (.inl (some (.int (Int32.ofNat al))), h5) := by
    rw [tx_sb T5 hbz hb hvb] at q5
    rw [q5, ← hal]
    have ee : fl (eaS (h5.mi u 6) (fun k => h5.mi (u + 3 + k) 2) (rowsAt h b) n) ns 0 0 = fl (eaS (h.mi u 6) (fun k => h.mi (u + 3 + k) 2) (rowsAt h b) n) ns 0 0 := fl_congr ns 0 0 (fun j x _ hj => by
      dsimp only [eaS]
      rw [tx_mi T5 (show u < h.sz by omega) (by omega) (by omega), tx_mi T5 (show u + 3 + j < h.sz by omega) (by omega) (by omega)])
    rw [ee]
  have g7 := tx_len T6
  have en : Int32.ofNat (ns) ≤ Int32.ofNat (ns) := by rw [i32_le (by omega) (by omega)]; omega
  refine ⟨h6, ?_, T6⟩
  rw [dM_of (Nat.le_of_ble_eq_true rfl)]
  simp -implicitDefEqProofs only [D_137_0, k_137_0, v_aload_n, v_callV1, aft_v, aft_n, g_getfield, sv_o, rf_s, g_getfieldS, g_iconst, v_callV2, g_istore_n, entL, getL, setL, kL_i, kL_r, isI_s, isR_s, isJ_s, gV_s, iV_i, cs0, cs1, cs2, cs3, cs4, dn_nil, kd_si, kd_sl, kd_sw, mr_si, mr_sl, mr_sw, ml_si, ml_sw, mi_sl, go_k G, go_r0 G, go_r5 G, go_r6 G, go_r7 G, go_r8 G, go_r10 G, go_r12 G, go_r13 G, go_r14 G, go_k201 G, go_k273 G, go_k274 G, go_k276 G, m_236y G hl, g1]
  refine Eq.trans ?_ (e2.trans ?_)
  · exact congrArg (fun z => dB PG 137 14 [some (.ref 200), some (.int z)] [] h1) (show (0 : Int32) = Int32.ofNat 0 from rfl)
  · rw [D_137_14]
    simp -implicitDefEqProofs only [D_137_0, k_137_0, k_137_14, D_137_36, k_137_36, R_137, v_aload_n, v_callV1, aft_v, aft_n, g_getfield, sv_o, rf_s, g_getfieldS, g_iconst, v_callV2, g_istore_n, v_iload_n, sv_i, g_icmp_ge, v_iinc, g_goto, g_ldc_w, g_pop_i, g_pop_r, g_bipush, g_ireturn, entL, getL, setL, kL_i, kL_r, isI_s, isR_s, isJ_s, gV_s, iV_i, cs0, cs1, cs2, cs3, cs4, dn_nil, kd_si, kd_sl, kd_sw, mr_si, mr_sl, mr_sw, ml_si, ml_sw, mi_sl, go_k G2, go_r0 G2, go_r5 G2, go_r6 G2, go_r7 G2, go_r8 G2, go_r10 G2, go_r12 G2, go_r13 G2, go_r14 G2, go_k201 G2, go_k273 G2, go_k274 G2, go_k276 G2, su_k U2, su_r9 U2, su_r10 U2, su_r12 U2, su_r13 U2, su_r14 U2, su_r15 U2, su_k1 U2, su_k2 U2, su_k3 U2, su_k4 U2, su_k5 U2, su_k6 U2, r2, ↓if_pos en, if_pos en, g3, go_k G3, go_r0 G3, go_r5 G3, go_r6 G3, go_r7 G3, go_r8 G3, go_r10 G3, go_r12 G3, go_r13 G3, go_r14 G3, go_k201 G3, go_k273 G3, go_k274 G3, go_k276 G3, st_k S3, st_r6 S3, st_r7 S3, st_r8 S3, st_r9 S3, st_r10 S3, st_r11 S3, st_r12 S3, st_r13 S3, st_k1 S3, st_k2 S3, st_k3 S3, st_k4 S3, st_k5 S3, st_k6 S3, st_ki S3, st_i2 S3, st_i3 S3, st_i4 S3, st_i5 S3, st_i6 S3, st_k8 S3, st_k9 S3, st_k10 S3, st_k11 S3, st_k12 S3, st_kb S3, st_b2 S3, st_b3 S3, st_b4 S3, st_b5 S3, st_b6 S3, st_k14 S3, st_k15 S3, st_k16 S3, st_k17 S3, st_k18 S3, r3, g4, go_k G4, go_r0 G4, go_r5 G4, go_r6 G4, go_r7 G4, go_r8 G4, go_r10 G4, go_r12 G4, go_r13 G4, go_r14 G4, go_k201 G4, go_k273 G4, go_k274 G4, go_k276 G4, g5, go_k G5, go_r0 G5, go_r5 G5, go_r6 G5, go_r7 G5, go_r8 G5, go_r10 G5, go_r12 G5, go_r13 G5, go_r14 G5, go_k201 G5, go_k273 G5, go_k274 G5, go_k276 G5, st_k S5, st_r6 S5, st_r7 S5, st_r8 S5, st_r9 S5, st_r10 S5, st_r11 S5, st_r12 S5, st_r13 S5, st_k1 S5, st_k2 S5, st_k3 S5, st_k4 S5, st_k5 S5, st_k6 S5, st_ki S5, st_i2 S5, st_i3 S5, st_i4 S5, st_i5 S5, st_i6 S5, st_k8 S5, st_k9 S5, st_k10 S5, st_k11 S5, st_k12 S5, st_kb S5, st_b2 S5, st_b3 S5, st_b4 S5, st_b5 S5, st_b6 S5, st_k14 S5, st_k15 S5, st_k16 S5, st_k17 S5, st_k18 S5, q5', g6, go_k G6, go_r0 G6, go_r5 G6, go_r6 G6, go_r7 G6, go_r8 G6, go_r10 G6, go_r12 G6, go_r13 G6, go_r14 G6, go_k201 G6, go_k273 G6, go_k274 G6, go_k276 G6, g7, retX_int]
