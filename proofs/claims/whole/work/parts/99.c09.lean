-- ===== calls: still more questions =====
theorem R_73 : PG.2.1 73 = (some .boolean) := rfl
theorem m_73n {i : Int32} {h : Mm} (H : MO h) (hl : h.mi 277 21 = 0) : dM PG 73 [.ref 277, .int i] h = some (.inl (some (.int 0)), h.si 277 0 1) := by
  rw [dM_of (Nat.le_of_ble_eq_true rfl)]
  simp -implicitDefEqProofs only [D_73_0, k_73_0, D_73_10, k_73_10, D_73_20, k_73_20, D_73_21, k_73_21, D_73_43, k_73_43, D_73_44, k_73_44, R_73, v_aload_n, g_iconst, v_callV2, aft_v, aft_n, g_if_ne, g_ireturn, v_iload_n, g_icmp_ge, g_goto, g_put_i, g_getfield, sv_i, rf_s, g_getfieldS, g_if_eq, entL, getL, setL, kL_i, kL_r, isI_s, isR_s, isJ_s, gV_s, iV_i, cs0, cs1, cs2, cs3, cs4, dn_nil, kd_si, kd_sl, kd_sw, mr_si, mr_sl, mr_sw, ml_si, ml_sw, mi_sl, mk_277 H, mk_278 H, mk_279 H, mk_280 H, mk_281 H, mk_282 H, mk_283 H, mk_284 H, mk_285 H, mk_286 H, mk_287 H, mk_288 H, mk_289 H, mr_1 H, mr_11 H, mr_12 H, mr_13 H, mr_14 H, mr_15 H, mr_16 H, mr_17 H, mr_18 H, mr_19 H, mr_24 H, mr_25 H, m_138n H hl, ↓if_true, if_true, rX_0]
theorem m_73x {i : Int32} {h : Mm} (H : MO h) (hl : ¬ h.mi 277 21 = 0) (c : i < 1) : dM PG 73 [.ref 277, .int i] h = some (.inl (some (.int 0)), h.si 277 0 2) := by
  have c2 : ¬ (1 : Int32) ≤ i := Int32.not_le.mpr c
  rw [dM_of (Nat.le_of_ble_eq_true rfl)]
  simp -implicitDefEqProofs only [D_73_0, k_73_0, D_73_10, k_73_10, D_73_20, k_73_20, D_73_21, k_73_21, D_73_43, k_73_43, D_73_44, k_73_44, R_73, v_aload_n, g_iconst, v_callV2, aft_v, aft_n, g_if_ne, g_ireturn, v_iload_n, g_icmp_ge, g_goto, g_put_i, g_getfield, sv_i, rf_s, g_getfieldS, g_if_eq, entL, getL, setL, kL_i, kL_r, isI_s, isR_s, isJ_s, gV_s, iV_i, cs0, cs1, cs2, cs3, cs4, dn_nil, kd_si, kd_sl, kd_sw, mr_si, mr_sl, mr_sw, ml_si, ml_sw, mi_sl, mk_277 H, mk_278 H, mk_279 H, mk_280 H, mk_281 H, mk_282 H, mk_283 H, mk_284 H, mk_285 H, mk_286 H, mk_287 H, mk_288 H, mk_289 H, mr_1 H, mr_11 H, mr_12 H, mr_13 H, mr_14 H, mr_15 H, mr_16 H, mr_17 H, mr_18 H, mr_19 H, mr_24 H, mr_25 H, m_138y H hl, ↓if_neg z_1, if_neg z_1, kd_si, ↓if_neg c2, if_neg c2, si_si, mi_ss, ↓if_neg two_0, if_neg two_0, rX_0]
theorem m_73y {i : Int32} {n : Nat} (hn : n ≤ 4) {h : Mm} (H : MO h) (hl : ¬ h.mi 277 21 = 0) (c : ¬ i < 1) (h16 : h.mi 279 16 = Int32.ofNat n) : dM PG 73 [.ref 277, .int i] h = some (.inl (some (.int (b2i (stGo (h.mi 279) i n 0)))), h.si 277 0 0) := by
  have c2 : (1 : Int32) ≤ i := Int32.not_lt.mp c
  have g := m_204 (t := i) hn (h := h.si 277 0 0) H (by rw [mi_sa (by decide)]; exact h16)
  rw [mi_sa (show (279 : Nat) ≠ 277 by decide)] at g
  rw [dM_of (Nat.le_of_ble_eq_true rfl)]
  cases e : stGo (h.mi 279) i n 0 with
  | true =>
    rw [e, b2i_1] at g
    simp -implicitDefEqProofs only [D_73_0, k_73_0, D_73_10, k_73_10, D_73_20, k_73_20, D_73_21, k_73_21, D_73_43, k_73_43, D_73_44, k_73_44, R_73, v_aload_n, g_iconst, v_callV2, aft_v, aft_n, g_if_ne, g_ireturn, v_iload_n, g_icmp_ge, g_goto, g_put_i, g_getfield, sv_i, rf_s, g_getfieldS, g_if_eq, entL, getL, setL, kL_i, kL_r, isI_s, isR_s, isJ_s, gV_s, iV_i, cs0, cs1, cs2, cs3, cs4, dn_nil, kd_si, kd_sl, kd_sw, mr_si, mr_sl, mr_sw, ml_si, ml_sw, mi_sl, mk_277 H, mk_278 H, mk_279 H, mk_280 H, mk_281 H, mk_282 H, mk_283 H, mk_284 H, mk_285 H, mk_286 H, mk_287 H, mk_288 H, mk_289 H, mr_1 H, mr_11 H, mr_12 H, mr_13 H, mr_14 H, mr_15 H, mr_16 H, mr_17 H, mr_18 H, mr_19 H, mr_24 H, mr_25 H, m_138y H hl, ↓if_neg z_1, if_neg z_1, kd_si, ↓if_pos c2, if_pos c2, si_si, mi_ss, ↓if_true, if_true, g, rX_1]
    rfl
  | false =>
    rw [e, b2i_0] at g
    simp -implicitDefEqProofs only [D_73_0, k_73_0, D_73_10, k_73_10, D_73_20, k_73_20, D_73_21, k_73_21, D_73_43, k_73_43, D_73_44, k_73_44, R_73, v_aload_n, g_iconst, v_callV2, aft_v, aft_n, g_if_ne, g_ireturn, v_iload_n, g_icmp_ge, g_goto, g_put_i, g_getfield, sv_i, rf_s, g_getfieldS, g_if_eq, entL, getL, setL, kL_i, kL_r, isI_s, isR_s, isJ_s, gV_s, iV_i, cs0, cs1, cs2, cs3, cs4, dn_nil, kd_si, kd_sl, kd_sw, mr_si, mr_sl, mr_sw, ml_si, ml_sw, mi_sl, mk_277 H, mk_278 H, mk_279 H, mk_280 H, mk_281 H, mk_282 H, mk_283 H, mk_284 H, mk_285 H, mk_286 H, mk_287 H, mk_288 H, mk_289 H, mr_1 H, mr_11 H, mr_12 H, mr_13 H, mr_14 H, mr_15 H, mr_16 H, mr_17 H, mr_18 H, mr_19 H, mr_24 H, mr_25 H, m_138y H hl, ↓if_neg z_1, if_neg z_1, kd_si, ↓if_pos c2, if_pos c2, si_si, mi_ss, ↓if_true, if_true, g, rX_0]
    rfl
theorem max_eq {x : Int32} : (if x < 0 then 0 else x) = (if 0 < x then x else 0) := by
  by_cases c : x < 0
  · rw [if_pos c, if_neg (fun z => Int32.lt_irrefl (Int32.lt_trans c z))]
  · rw [if_neg c]
    by_cases d : 0 < x
    · rw [if_pos d]
    · rw [if_neg d, Int32.le_antisymm (Int32.not_lt.mp d) (Int32.not_lt.mp c)]
theorem st_30 {h0 : Mm} {c sc len : Nat} (Sa : STA h0 sc len) : STP h0 sc len c 1579 := by
  intro i tl h hi hI
  obtain ⟨X, u, d, b, cc, v, cap, I⟩ := hI
  have I : IN6 h0 c X u d b cc v cap h := I
  obtain ⟨ks, hl, k2, e4, e21⟩ := in_f I Sa
  have A := I.2.1
  have M := I.2.2.1
  have G := A.1.1
  have U := A.1.2.2.1
  have T := A.1.2.2.2.2.1
  cases hld : X.ld with
  | false =>
    rw [hld, b2i_0] at e4 e21
    obtain ⟨H1, s1, s2, s3, f7, f9, f3, -⟩ := in_g I Sa CQ.thr (Or.inl rfl)
    have g2 := by have := m_71 (n := 0) (by decide) H1 ((M.2.2.2.2.2.2 hld).1 8); rw [f7, e21, if_pos rfl, if_pos rfl] at this; exact this
    obtain ⟨J, j7, j9, jm⟩ := in_cm I CQ.thr (Or.inl rfl) (MQw.t (x := 1))
    obtain ⟨tl', e⟩ := lx_30 (tl := tl) hl hi ks s1 s2 k2 s3 j7 (m_5 jm) z_1 (w_70_x0 k2 (m_202n G e4)) g2 mi_ss
    exact ⟨tl', _, e, J⟩
  | true =>
    rw [hld, b2i_1] at e4 e21
    have nl : ¬ h.mi 200 4 = 0 := by rw [e4]; exact z_1
    obtain ⟨i0, pc, n, q, E, V, Jj, P, -⟩ := in_cur I hld
    have VN := V.1.2
    have PN := P.2.1
    have hub : u + 7 ≤ b := by
      have z := A.2.1.1.1
      have z2 := A.1.2.1
      omega
    have e6 : h.mi u 6 = Int32.ofNat X.du := (P.1.1 6 (by decide)).trans P.2.2.2.2.1.1
    have ev : fl (fun j a => a + b2i (gLB (h.mi u 6) (h.mi b 0) (rowsAt h b) j)) n 0 0 = lateF (h.mi 283) n := by rw [e6]; exact q_late E
    obtain ⟨vv, hv⟩ : ∃ vv, vv = lateF (h.mi 283) n := ⟨_, rfl⟩
    have g1 := m_202y (n := n) hub (by omega) G U T nl V.1.1.2.2.2.2.1
    rw [ev, ← hv] at g1
    obtain ⟨H1, s1, s2, s3, f7, f9, f3, k90⟩ := in_g I Sa (CQ.rf) (Or.inr ⟨vv.toInt64, rfl⟩)
    have nl1 : ¬ (h.sl 290 0 vv.toInt64).mi 277 21 = 0 := by rw [f7, e21]; exact z_1
    have g2 := by have := m_71 (n := n) (by omega) H1 (E.1.2.2.2.2.2.2.2.2.trans V.1.1.2.2.2.2.1); rw [f7, e21, if_neg z_1, if_neg z_1] at this; exact this
    rw [f3, ← hv] at g2
    obtain ⟨J, j7, j9, jm⟩ := in_cm I (CQ.rf) (Or.inr ⟨vv.toInt64, rfl⟩) (MQw.t (x := 0))
    obtain ⟨tl', e⟩ := lv_30 (tl := tl) hl hi ks s1 s2 k2 s3 j7 (m_5 jm) j9 (w_70 k2 k90 g1) g2 mi_ss sl_ml
    exact ⟨tl', _, e, J⟩
theorem st_48 {h0 : Mm} {c sc len : Nat} (Sa : STA h0 sc len) : STP h0 sc len c 2620 := by
  intro i tl h hi hI
  obtain ⟨X, u, d, b, cc, v, cap, I⟩ := hI
  have I : IN6 h0 c X u d b cc v cap h := I
  obtain ⟨ks, hl, k2, e4, e21⟩ := in_f I Sa
  have A := I.2.1
  have M := I.2.2.1
  have G := A.1.1
  have U := A.1.2.2.1
  have T := A.1.2.2.2.2.1
  cases hld : X.ld with
  | false =>
    rw [hld, b2i_0] at e4 e21
    obtain ⟨H1, s1, s2, s3, f7, f9, f3, -⟩ := in_g I Sa CQ.thr (Or.inl rfl)
    have g2 := m_35n H1 (by rw [f7]; exact e21)
    obtain ⟨J, j7, j9, jm⟩ := in_cm I CQ.thr (Or.inl rfl) (MQw.t (x := 1))
    obtain ⟨tl', e⟩ := lx_48 (tl := tl) hl hi ks s1 s2 k2 s3 j7 (m_5 jm) z_1 (w_34_x0 k2 (m_177n G e4)) g2 mi_ss
    exact ⟨tl', _, e, J⟩
  | true =>
    rw [hld, b2i_1] at e4 e21
    have nl : ¬ h.mi 200 4 = 0 := by rw [e4]; exact z_1
    obtain ⟨i0, pc, n, q, E, V, Jj, P, -⟩ := in_cur I hld
    have VN := V.1.2
    have PN := P.2.1
    have hub : u + 7 ≤ b := by
      have z := A.2.1.1.1
      have z2 := A.1.2.1
      omega
    have e6 : h.mi u 6 = Int32.ofNat X.du := (P.1.1 6 (by decide)).trans P.2.2.2.2.1.1
    have e3 : h.mi u 3 = h.mi 279 3 := P.1.1 3 (by decide)
    have ev : (if lkF (h.mi u 3) (rowsAt h b) n q - h.mi b 3 < 0 then 0 else lkF (h.mi u 3) (rowsAt h b) n q - h.mi b 3) = (if 0 < fl (inS (h.mi 279 3) (h.mi 283)) n 0 0 - h.mi 283 3 then fl (inS (h.mi 279 3) (h.mi 283)) n 0 0 - h.mi 283 3 else 0) := by rw [max_eq, e3, q_need E V, show h.mi 283 3 = h.mi b 3 from E.1.2.2.2.1]
    obtain ⟨vv, hv⟩ : ∃ vv, vv = (if 0 < fl (inS (h.mi 279 3) (h.mi 283)) n 0 0 - h.mi 283 3 then fl (inS (h.mi 279 3) (h.mi 283)) n 0 0 - h.mi 283 3 else 0) := ⟨_, rfl⟩
    have g1 := m_177y (n := n) hub (by omega) G U T nl V.1.1.2.2.2.2.1 (q := q) (by omega) V.1.1.2.2.2.2.2
    rw [ev, ← hv] at g1
    obtain ⟨H1, s1, s2, s3, f7, f9, f3, k90⟩ := in_g I Sa (CQ.rf) (Or.inr ⟨vv.toInt64, rfl⟩)
    have nl1 : ¬ (h.sl 290 0 vv.toInt64).mi 277 21 = 0 := by rw [f7, e21]; exact z_1
    have g2 := m_35y (n := n) (by omega) H1 nl1 (E.1.2.2.2.2.2.2.2.2.trans V.1.1.2.2.2.2.1)
    rw [f3, f9, ← hv] at g2
    obtain ⟨J, j7, j9, jm⟩ := in_cm I (CQ.rf) (Or.inr ⟨vv.toInt64, rfl⟩) (MQw.t (x := 0))
    obtain ⟨tl', e⟩ := lv_48 (tl := tl) hl hi ks s1 s2 k2 s3 j7 (m_5 jm) j9 (w_34 k2 k90 g1) g2 mi_ss sl_ml
    exact ⟨tl', _, e, J⟩
theorem st_21 {h0 : Mm} {c sc len : Nat} (Sa : STA h0 sc len) : STP h0 sc len c 1283 := by
  intro i tl h hi hI
  obtain ⟨X, u, d, b, cc, v, cap, I⟩ := hI
  have I : IN6 h0 c X u d b cc v cap h := I
  obtain ⟨ks, hl, k2, e4, e21⟩ := in_f I Sa
  have A := I.2.1
  have M := I.2.2.1
  have G := A.1.1
  have U := A.1.2.2.1
  have T := A.1.2.2.2.2.1
  cases hld : X.ld with
  | false =>
    rw [hld, b2i_0] at e4 e21
    obtain ⟨H1, s1, s2, s3, f7, f9, f3, -⟩ := in_g I Sa CQ.thr (Or.inl rfl)
    have g2 := m_89n (i := h.mi sc (i + 1)) H1 (by rw [f7]; exact e21)
    obtain ⟨J, j7, j9, jm⟩ := in_cm I CQ.thr (Or.inl rfl) (MQw.t (x := 1))
    obtain ⟨tl', e⟩ := lx_21 (tl := tl) hl hi ks s1 s2 k2 s3 j7 (m_5 jm) z_1 (w_88_x0 k2 (m_207n G e4)) g2 mi_ss
    exact ⟨tl', _, e, J⟩
  | true =>
    rw [hld, b2i_1] at e4 e21
    have nl : ¬ h.mi 200 4 = 0 := by rw [e4]; exact z_1
    obtain ⟨i0, pc, n, q, E, V, Jj, P, -⟩ := in_cur I hld
    have VN := V.1.2
    have PN := P.2.1
    have n13 : h.mi (b + 13) 0 = Int32.ofNat n := V.1.1.2.2.2.2.1
    have n131 : h.mi (b + 13) 1 = Int32.ofNat q := V.1.1.2.2.2.2.2
    have ed : h.mi (b + 13) 0 - h.mi (b + 13) 1 = Int32.ofNat (n - q) := by
      rw [n13, n131, i32_sub (by omega)]
    have xo := I.1
    have hw : nwQ (h.mi 283) n q := nw_of E.2.2.2.2.2.2.2 V.2.2.2.2.2.2 (by omega) (by omega) P.2.2.2.2.1.2
    by_cases r0 : h.mi sc (i + 1) < 0
    · skip
      obtain ⟨H1, s1, s2, s3, f7, f9, f3, -⟩ := in_g I Sa CQ.thr (Or.inl rfl)
      have g2 := m_89x H1 (by rw [f7, e21]; exact z_1) r0
      obtain ⟨J, j7, j9, jm⟩ := in_cm I CQ.thr (Or.inl rfl) (MQw.t (x := 2))
      obtain ⟨tl', e⟩ := lx_21 (tl := tl) hl hi ks s1 s2 k2 s3 j7 (m_5 jm) two_0 (w_88_x1 k2 (m_207x G T nl (Or.inl r0))) g2 mi_ss
      exact ⟨tl', _, e, J⟩
    · by_cases r1 : h.mi sc (i + 1) < Int32.ofNat (n - q)
      · obtain ⟨ei, r, hr, er⟩ := rng_y (by omega) r0 r1
        have ev : h.mi (b + 13) 1 + Int32.ofNat r = Int32.ofNat (q + r) := by rw [n131, i32_add]
        obtain ⟨vv, hv⟩ : ∃ vv, vv = Int32.ofNat (q + r) := ⟨_, rfl⟩
        have g1 := m_207y (i := Int32.ofNat r) G T nl (by rw [← er]; exact r0) (by rw [ed, ← er]; exact r1)
        rw [ev, ← hv, ← er] at g1
        obtain ⟨H1, s1, s2, s3, f7, f9, f3, k90⟩ := in_g I Sa (CQ.rf) (Or.inr ⟨vv.toInt64, rfl⟩)
        have nl1 : ¬ (h.sl 290 0 vv.toInt64).mi 277 21 = 0 := by rw [f7, e21]; exact z_1
        have g2 := m_89y (r := r) (n := n) (q := q) (by omega) (by omega) H1 nl1 (E.1.2.2.2.2.2.2.2.2.trans V.1.1.2.2.2.2.1) (by rw [f3]; exact hw)
        rw [← hv, ← er] at g2
        obtain ⟨J, j7, j9, jm⟩ := in_cm I (CQ.rf) (Or.inr ⟨vv.toInt64, rfl⟩) (MQw.t (x := 0))
        obtain ⟨tl', e⟩ := lv_21 (tl := tl) hl hi ks s1 s2 k2 s3 j7 (m_5 jm) j9 (w_88 k2 k90 g1) g2 mi_ss sl_ml
        exact ⟨tl', _, e, J⟩
      · skip
        obtain ⟨H1, s1, s2, s3, f7, f9, f3, -⟩ := in_g I Sa CQ.thr (Or.inl rfl)
        have g2 := m_89z (n := n) (q := q) (by omega) (by omega) H1 (by rw [f7, e21]; exact z_1) (Int32.not_lt.mp r0) r1 (E.1.2.2.2.2.2.2.2.2.trans V.1.1.2.2.2.2.1) hw
        obtain ⟨J, j7, j9, jm⟩ := in_cm I CQ.thr (Or.inl rfl) (MQw.t (x := 2))
        obtain ⟨tl', e⟩ := lx_21 (tl := tl) hl hi ks s1 s2 k2 s3 j7 (m_5 jm) two_0 (w_88_x1 k2 (m_207x G T nl (Or.inr (by rw [ed]; exact r1)))) g2 mi_ss
        exact ⟨tl', _, e, J⟩
theorem st_29 {h0 : Mm} {c sc len : Nat} (Sa : STA h0 sc len) : STP h0 sc len c 1516 := by
  intro i tl h hi hI
  obtain ⟨X, u, d, b, cc, v, cap, I⟩ := hI
  have I : IN6 h0 c X u d b cc v cap h := I
  obtain ⟨ks, hl, k2, e4, e21⟩ := in_f I Sa
  have A := I.2.1
  have M := I.2.2.1
  have G := A.1.1
  have U := A.1.2.2.1
  have T := A.1.2.2.2.2.1
  cases hld : X.ld with
  | false =>
    rw [hld, b2i_0] at e4 e21
    obtain ⟨H1, s1, s2, s3, f7, f9, f3, -⟩ := in_g I Sa CQ.thr (Or.inl rfl)
    have g2 := m_73n (i := h.mi sc (i + 1)) H1 (by rw [f7]; exact e21)
    obtain ⟨J, j7, j9, jm⟩ := in_cm I CQ.thr (Or.inl rfl) (MQw.t (x := 1))
    obtain ⟨tl', e⟩ := lx_29 (tl := tl) hl hi ks s1 s2 k2 s3 j7 (m_5 jm) z_1 (w_72_x0 k2 (m_203n G e4)) g2 mi_ss
    exact ⟨tl', _, e, J⟩
  | true =>
    rw [hld, b2i_1] at e4 e21
    have nl : ¬ h.mi 200 4 = 0 := by rw [e4]; exact z_1
    obtain ⟨i0, pc, n, q, E, V, Jj, P, -⟩ := in_cur I hld
    have VN := V.1.2
    have PN := P.2.1
    by_cases r0 : h.mi sc (i + 1) < 1
    · skip
      obtain ⟨H1, s1, s2, s3, f7, f9, f3, -⟩ := in_g I Sa CQ.thr (Or.inl rfl)
      have g2 := m_73x H1 (by rw [f7, e21]; exact z_1) r0
      obtain ⟨J, j7, j9, jm⟩ := in_cm I CQ.thr (Or.inl rfl) (MQw.t (x := 2))
      obtain ⟨tl', e⟩ := lx_29 (tl := tl) hl hi ks s1 s2 k2 s3 j7 (m_5 jm) two_0 (w_72_x2 k2 (m_203x G nl r0)) g2 mi_ss
      exact ⟨tl', _, e, J⟩
    · have g1 := m_203y (i := h.mi sc (i + 1)) (n := X.st) (by omega) G U nl r0 P.2.1.1
      have se : gsGo (h.mi (u + 1)) (h.mi (u + 2)) (h.mi sc (i + 1)) X.st 0 = stGo (h.mi 279) (h.mi sc (i + 1)) X.st 0 := st_eq X.st 0 (fun j _ hj => P.2.2.1 j (by omega))
      rw [se] at g1
      cases hb : stGo (h.mi 279) (h.mi sc (i + 1)) X.st 0 with
      | true =>
        rw [hb] at g1
        have g1 : dM PG 203 [.ref 200, .int (h.mi sc (i + 1))] h = some (.inl (some (.int 1)), h) := g1
        obtain ⟨H1, s1, s2, s3, f7, f9, f3, k90⟩ := in_g I Sa CQ.rf (Or.inr ⟨1, rfl⟩)
        have g2 := m_73y (i := h.mi sc (i + 1)) (n := X.st) (by omega) H1 (by rw [f7, e21]; exact z_1) r0 (by rw [f9]; exact P.2.1.2.1)
        rw [f9, hb] at g2
        have g2 : dM PG 73 [.ref 277, .int (h.mi sc (i + 1))] (h.sl 290 0 1) = some (.inl (some (.int 1)), (h.sl 290 0 1).si 277 0 0) := g2
        obtain ⟨J, j7, j9, jm⟩ := in_cm I CQ.rf (Or.inr ⟨1, rfl⟩) (MQw.t (x := 0))
        obtain ⟨tl', e⟩ := lv_29_1 (tl := tl) hl hi ks s1 s2 k2 s3 j7 (m_5 jm) j9 (w_72_1 k2 k90 g1) g2 mi_ss sl_ml
        exact ⟨tl', _, e, J⟩
      | false =>
        rw [hb] at g1
        have g1 : dM PG 203 [.ref 200, .int (h.mi sc (i + 1))] h = some (.inl (some (.int 0)), h) := g1
        obtain ⟨H1, s1, s2, s3, f7, f9, f3, k90⟩ := in_g I Sa CQ.rf (Or.inr ⟨0, rfl⟩)
        have g2 := m_73y (i := h.mi sc (i + 1)) (n := X.st) (by omega) H1 (by rw [f7, e21]; exact z_1) r0 (by rw [f9]; exact P.2.1.2.1)
        rw [f9, hb] at g2
        have g2 : dM PG 73 [.ref 277, .int (h.mi sc (i + 1))] (h.sl 290 0 0) = some (.inl (some (.int 0)), (h.sl 290 0 0).si 277 0 0) := g2
        obtain ⟨J, j7, j9, jm⟩ := in_cm I CQ.rf (Or.inr ⟨0, rfl⟩) (MQw.t (x := 0))
        obtain ⟨tl', e⟩ := lv_29_0 (tl := tl) hl hi ks s1 s2 k2 s3 j7 (m_5 jm) j9 (w_72_0 k2 k90 g1) g2 mi_ss sl_ml
        exact ⟨tl', _, e, J⟩
theorem st_38 {h0 : Mm} {c sc len : Nat} (Sa : STA h0 sc len) : STP h0 sc len c 1972 := by
  intro i tl h hi hI
  obtain ⟨X, u, d, b, cc, v, cap, I⟩ := hI
  have I : IN6 h0 c X u d b cc v cap h := I
  obtain ⟨ks, hl, k2, e4, e21⟩ := in_f I Sa
  have A := I.2.1
  have M := I.2.2.1
  have G := A.1.1
  have U := A.1.2.2.1
  have T := A.1.2.2.2.2.1
  cases hld : X.ld with
  | false =>
    rw [hld, b2i_0] at e4 e21
    obtain ⟨H1, s1, s2, s3, f7, f9, f3, -⟩ := in_g I Sa CQ.thr (Or.inl rfl)
    have g2 := m_55n (i := h.mi sc (i + 1)) (j := (if h.mi sc (i + 2) = 0 then (0 : Int32) else 1)) H1 (by rw [f7]; exact e21)
    obtain ⟨J, j7, j9, jm⟩ := in_cm I CQ.thr (Or.inl rfl) (MQw.t (x := 1))
    obtain ⟨tl', e⟩ := lx_38 (tl := tl) hl hi ks s1 s2 k2 s3 j7 (m_5 jm) z_1 (w_54_x0 k2 (m_191n G U e4)) g2 mi_ss
    exact ⟨tl', _, e, J⟩
  | true =>
    rw [hld, b2i_1] at e4 e21
    have nl : ¬ h.mi 200 4 = 0 := by rw [e4]; exact z_1
    obtain ⟨i0, pc, n, q, E, V, Jj, P, -⟩ := in_cur I hld
    have VN := V.1.2
    have PN := P.2.1
    have cna : h.mi u 11 = Int32.ofNat (X.ns) := P.2.1.2.2.1
    have bda : X.ns ≤ 4 := by omega
    have mea : h.mi 279 7 = Int32.ofNat (X.ns) := P.2.1.2.2.2.1
    by_cases ra : h.mi sc (i + 1) < 0 ∨ ¬ h.mi sc (i + 1) < h.mi u 11
    · skip
      obtain ⟨H1, s1, s2, s3, f7, f9, f3, -⟩ := in_g I Sa CQ.thr (Or.inl rfl)
      have g2 := m_55x (i := h.mi sc (i + 1)) (j := (if h.mi sc (i + 2) = 0 then (0 : Int32) else 1)) H1 (by rw [f7, e21]; exact z_1) (by rw [show h.thr.mi 279 7 = h.mi 279 7 from rfl, mea]; exact rng_n (by omega) (by rw [← cna]; exact ra))
      obtain ⟨J, j7, j9, jm⟩ := in_cm I CQ.thr (Or.inl rfl) (MQw.t (x := 2))
      obtain ⟨tl', e⟩ := lx_38 (tl := tl) hl hi ks s1 s2 k2 s3 j7 (m_5 jm) two_0 (w_54_x1 k2 (m_191x G U nl ra)) g2 mi_ss
      exact ⟨tl', _, e, J⟩
    · skip
      have r0a : ¬ h.mi sc (i + 1) < 0 := fun z => ra (Or.inl z)
      have r1a : h.mi sc (i + 1) < h.mi u 11 := Classical.byContradiction fun z => ra (Or.inr z)
      have r2a := r1a
      rw [cna] at r2a
      obtain ⟨eia, ka, hka, eka⟩ := rng_y (by omega) r0a r2a
      rw [eka] at eia
      have r3a : Int32.ofNat ka < h.mi u 11 := by rw [← eka]; exact r1a
      obtain ⟨sm, sm1, sm2⟩ := ov_nat V (x := Int32.ofNat ka)
      obtain ⟨mn, mn1, mn2, mn3⟩ := bx_nat (R := rowsAt h b) (n := n) (x := Int32.ofNat ka)
      have ms : mn = 0 → sm = 0 := fun z => by
        have e0 := mn3 z
        rw [sm2] at e0
        have := congrArg cN e0
        rw [cN_of (by omega)] at this
        exact this
      have nx := oN_s (a := ka) (by omega)
      have ev : Int32.ofNat ((if (if h.mi sc (i + 2) = 0 then (0 : Int32) else 1) = 0 then sm else max 1 mn) / Nat.gcd sm (max 1 mn)) = Int32.ofNat ((if (if h.mi sc (i + 2) = 0 then (0 : Int32) else 1) = 0 then sm else max 1 mn) / Nat.gcd sm (max 1 mn)) := rfl
      obtain ⟨vv, hv⟩ : ∃ vv, vv = Int32.ofNat ((if (if h.mi sc (i + 2) = 0 then (0 : Int32) else 1) = 0 then sm else max 1 mn) / Nat.gcd sm (max 1 mn)) := ⟨_, rfl⟩
      have g1 := m_191y (i := Int32.ofNat ka) (j := (if h.mi sc (i + 2) = 0 then (0 : Int32) else 1)) (n := n) (sm := sm) (mn := mn) (by omega) G U T nl (by rw [← eka]; exact r0a) r3a V.1.1.2.2.2.2.1 sm2 (by omega) mn2 (by omega) ms
      rw [← hv, ← eka] at g1
      obtain ⟨H1, s1, s2, s3, f7, f9, f3, k90⟩ := in_g I Sa (CQ.rf) (Or.inr ⟨vv.toInt64, rfl⟩)
      have nl1 : ¬ (h.sl 290 0 vv.toInt64).mi 277 21 = 0 := by rw [f7, e21]; exact z_1
      have g2 := m_55y (i := Int32.ofNat ka) (j := (if h.mi sc (i + 2) = 0 then (0 : Int32) else 1)) (n := n) (sm := sm) (mn := mn) (by omega) H1 nl1 (by rw [show (h.sl 290 0 vv.toInt64).mi 279 7 = h.mi 279 7 from rfl, mea]; exact eia) (E.1.2.2.2.2.2.2.2.2.trans V.1.1.2.2.2.2.1) (by rw [f3, ← q_ov E nx]; exact sm2) (by omega) (by rw [f3, ← q_bx E nx (by omega)]; exact mn2) (by omega)
      rw [← hv, ← eka] at g2
      obtain ⟨J, j7, j9, jm⟩ := in_cm I (CQ.rf) (Or.inr ⟨vv.toInt64, rfl⟩) (MQw.t (x := 0))
      obtain ⟨tl', e⟩ := lv_38 (tl := tl) hl hi ks s1 s2 k2 s3 j7 (m_5 jm) j9 (w_54 k2 k90 g1) g2 mi_ss sl_ml
      exact ⟨tl', _, e, J⟩
