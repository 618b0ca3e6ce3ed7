-- ===== calls: more questions =====
theorem m_68n {u d b c : Nat} {h : Mm} (G : GO h u d b c) (hl : h.mi 200 4 = 0) : dM PG 68 [.ref 200] h = some (.inl (some (.int 0)), h) := by
  rw [dM_of (Nat.le_of_ble_eq_true rfl)]
  simp -implicitDefEqProofs only [D_68_0, k_68_0, D_68_21, k_68_21, D_68_22, k_68_22, R_68, v_aload_n, g_getfield, sv_z, rf_s, g_getfieldS, g_if_eq, sv_o, g_iconst, v_callV2, aft_v, aft_n, g_goto, g_ireturn, entL, getL, setL, kL_i, kL_r, isI_s, isR_s, isJ_s, gV_s, iV_i, cs0, cs1, cs2, cs3, cs4, dn_nil, kd_si, kd_sl, kd_sw, mr_si, mr_sl, mr_sw, ml_si, ml_sw, mi_sl, go_k G, go_r0 G, go_r5 G, go_r6 G, go_r7 G, go_r8 G, go_r10 G, go_r12 G, go_r13 G, go_r14 G, go_k201 G, go_k273 G, go_k274 G, go_k276 G, hl, ↓if_true, if_true, retX_int]
theorem st_31 {h0 : Mm} {c sc len : Nat} (Sa : STA h0 sc len) : STP h0 sc len c 1623 := by
  intro i tl h hi hI
  obtain ⟨X, u, d, b, cc, v, cap, I⟩ := hI
  have I : IN6 h0 c X u d b cc v cap h := I
  obtain ⟨ks, hl, k2, e4, e21⟩ := in_f I Sa
  have A := I.2.1
  have M := I.2.2.1
  have G := A.1.1
  have U := A.1.2.2.1
  have T := A.1.2.2.2.2.1
  have g2 := m_69 M.1
  obtain ⟨J, -⟩ := in_cm I CQ.rf (Or.inl rfl) (MQw.t (x := 0))
  cases hld : X.ld with
  | false =>
    rw [hld, b2i_0] at e4 e21
    rw [e21, if_pos rfl] at g2
    exact ⟨tl, _, lc_31 hl hi ks ks rfl k2 (mk_277 M.1) (m_68n G e4) g2, J⟩
  | true =>
    rw [hld, b2i_1] at e4 e21
    obtain ⟨i0, pc, n, q, E, V, Jj, P, -⟩ := in_cur I hld
    have VN := V.1.2
    have g1 := m_68 (by omega) G T V.1.1.2.2.1
    rw [e4, if_neg z_1] at g1
    rw [e21, if_neg z_1, Jj] at g2
    exact ⟨tl, _, lc_31 hl hi ks ks rfl k2 (mk_277 M.1) g1 g2, J⟩
theorem st_11 {h0 : Mm} {c sc len : Nat} (Sa : STA h0 sc len) : STP h0 sc len c 742 := by
  intro i tl h hi hI
  obtain ⟨X, u, d, b, cc, v, cap, I⟩ := hI
  have I : IN6 h0 c X u d b cc v cap h := I
  obtain ⟨ks, hl, k2, e4, e21⟩ := in_f I Sa
  have A := I.2.1
  have M := I.2.2.1
  have G := A.1.1
  have U := A.1.2.2.1
  have T := A.1.2.2.2.2.1
  cases hld : X.ld with
  | false =>
    rw [hld, b2i_0] at e4 e21
    obtain ⟨H1, s1, s2, s3, f7, f9, f3, -⟩ := in_g I Sa CQ.thr (Or.inl rfl)
    have g2 := m_109n (i := h.mi sc (i + 1)) H1 (by rw [f7]; exact e21)
    obtain ⟨J, j7, j9, jm⟩ := in_cm I CQ.thr (Or.inl rfl) (MQw.t (x := 1))
    obtain ⟨tl', e⟩ := lx_11 (tl := tl) hl hi ks s1 s2 k2 s3 j7 (m_5 jm) z_1 (w_108_x0 k2 (m_220n G T e4)) g2 mi_ss
    exact ⟨tl', _, e, J⟩
  | true =>
    rw [hld, b2i_1] at e4 e21
    have nl : ¬ h.mi 200 4 = 0 := by rw [e4]; exact z_1
    obtain ⟨i0, pc, n, q, E, V, Jj, P, -⟩ := in_cur I hld
    have VN := V.1.2
    have PN := P.2.1
    have cna : h.mi (b + 7) 0 = Int32.ofNat (X.cu.1) := V.1.1.2.2.1
    have bda : X.cu.1 ≤ 80 := by omega
    have mea : h.mi 283 9 = Int32.ofNat (X.cu.1) := E.1.2.2.2.2.2.2.2.1.trans V.1.1.2.2.1
    by_cases ra : h.mi sc (i + 1) < 0 ∨ ¬ h.mi sc (i + 1) < h.mi (b + 7) 0
    · skip
      obtain ⟨H1, s1, s2, s3, f7, f9, f3, -⟩ := in_g I Sa CQ.thr (Or.inl rfl)
      have g2 := m_109x (i := h.mi sc (i + 1)) H1 (by rw [f7, e21]; exact z_1) (by rw [show h.thr.mi 283 9 = h.mi 283 9 from rfl, mea]; exact rng_n (by omega) (by rw [← cna]; exact ra))
      obtain ⟨J, j7, j9, jm⟩ := in_cm I CQ.thr (Or.inl rfl) (MQw.t (x := 2))
      obtain ⟨tl', e⟩ := lx_11 (tl := tl) hl hi ks s1 s2 k2 s3 j7 (m_5 jm) two_0 (w_108_x1 k2 (m_220x G T nl ra)) g2 mi_ss
      exact ⟨tl', _, e, J⟩
    · skip
      have r0a : ¬ h.mi sc (i + 1) < 0 := fun z => ra (Or.inl z)
      have r1a : h.mi sc (i + 1) < h.mi (b + 7) 0 := Classical.byContradiction fun z => ra (Or.inr z)
      have r2a := r1a
      rw [cna] at r2a
      obtain ⟨eia, ka, hka, eka⟩ := rng_y (by omega) r0a r2a
      rw [eka] at eia
      have r3a : Int32.ofNat ka < h.mi (b + 7) 0 := by rw [← eka]; exact r1a
      have ev : h.mi (b + 11) ka = (if h.mi 283 (48 + ka) < 4 then -1 else h.mi 283 (128 + ka)) := (q_box E V hka).symm
      obtain ⟨vv, hv⟩ : ∃ vv, vv = (if h.mi 283 (48 + ka) < 4 then -1 else h.mi 283 (128 + ka)) := ⟨_, rfl⟩
      have g1 := m_220y (k := ka) (by omega) G T nl r3a
      rw [ev, ← hv, ← eka] at g1
      obtain ⟨H1, s1, s2, s3, f7, f9, f3, k90⟩ := in_g I Sa (CQ.rf) (Or.inr ⟨vv.toInt64, rfl⟩)
      have nl1 : ¬ (h.sl 290 0 vv.toInt64).mi 277 21 = 0 := by rw [f7, e21]; exact z_1
      have g2 := m_109y (i := ka) (by omega) H1 nl1 (by rw [show (h.sl 290 0 vv.toInt64).mi 283 9 = h.mi 283 9 from rfl, mea]; exact eia)
      rw [f3, ← hv, ← eka] at g2
      obtain ⟨J, j7, j9, jm⟩ := in_cm I (CQ.rf) (Or.inr ⟨vv.toInt64, rfl⟩) (MQw.t (x := 0))
      obtain ⟨tl', e⟩ := lv_11 (tl := tl) hl hi ks s1 s2 k2 s3 j7 (m_5 jm) j9 (w_108 k2 k90 g1) g2 mi_ss sl_ml
      exact ⟨tl', _, e, J⟩
theorem st_12 {h0 : Mm} {c sc len : Nat} (Sa : STA h0 sc len) : STP h0 sc len c 798 := by
  intro i tl h hi hI
  obtain ⟨X, u, d, b, cc, v, cap, I⟩ := hI
  have I : IN6 h0 c X u d b cc v cap h := I
  obtain ⟨ks, hl, k2, e4, e21⟩ := in_f I Sa
  have A := I.2.1
  have M := I.2.2.1
  have G := A.1.1
  have U := A.1.2.2.1
  have T := A.1.2.2.2.2.1
  cases hld : X.ld with
  | false =>
    rw [hld, b2i_0] at e4 e21
    obtain ⟨H1, s1, s2, s3, f7, f9, f3, -⟩ := in_g I Sa CQ.thr (Or.inl rfl)
    have g2 := m_107n (i := h.mi sc (i + 1)) H1 (by rw [f7]; exact e21)
    obtain ⟨J, j7, j9, jm⟩ := in_cm I CQ.thr (Or.inl rfl) (MQw.t (x := 1))
    obtain ⟨tl', e⟩ := lx_12 (tl := tl) hl hi ks s1 s2 k2 s3 j7 (m_5 jm) z_1 (w_106_x0 k2 (m_217n G T e4)) g2 mi_ss
    exact ⟨tl', _, e, J⟩
  | true =>
    rw [hld, b2i_1] at e4 e21
    have nl : ¬ h.mi 200 4 = 0 := by rw [e4]; exact z_1
    obtain ⟨i0, pc, n, q, E, V, Jj, P, -⟩ := in_cur I hld
    have VN := V.1.2
    have PN := P.2.1
    have cna : h.mi (b + 7) 0 = Int32.ofNat (X.cu.1) := V.1.1.2.2.1
    have bda : X.cu.1 ≤ 80 := by omega
    have mea : h.mi 283 9 = Int32.ofNat (X.cu.1) := E.1.2.2.2.2.2.2.2.1.trans V.1.1.2.2.1
    by_cases ra : h.mi sc (i + 1) < 0 ∨ ¬ h.mi sc (i + 1) < h.mi (b + 7) 0
    · skip
      obtain ⟨H1, s1, s2, s3, f7, f9, f3, -⟩ := in_g I Sa CQ.thr (Or.inl rfl)
      have g2 := m_107x (i := h.mi sc (i + 1)) H1 (by rw [f7, e21]; exact z_1) (by rw [show h.thr.mi 283 9 = h.mi 283 9 from rfl, mea]; exact rng_n (by omega) (by rw [← cna]; exact ra))
      obtain ⟨J, j7, j9, jm⟩ := in_cm I CQ.thr (Or.inl rfl) (MQw.t (x := 2))
      obtain ⟨tl', e⟩ := lx_12 (tl := tl) hl hi ks s1 s2 k2 s3 j7 (m_5 jm) two_0 (w_106_x1 k2 (m_217x G T nl ra)) g2 mi_ss
      exact ⟨tl', _, e, J⟩
    · skip
      have r0a : ¬ h.mi sc (i + 1) < 0 := fun z => ra (Or.inl z)
      have r1a : h.mi sc (i + 1) < h.mi (b + 7) 0 := Classical.byContradiction fun z => ra (Or.inr z)
      have r2a := r1a
      rw [cna] at r2a
      obtain ⟨eia, ka, hka, eka⟩ := rng_y (by omega) r0a r2a
      rw [eka] at eia
      have r3a : Int32.ofNat ka < h.mi (b + 7) 0 := by rw [← eka]; exact r1a
      have ev : claF (rowsAt h b) ka = leadF (h.mi 283) ka X.ns := q_cla E V.2.2.2.2.1 hka ⟨by omega, by omega⟩
      obtain ⟨vv, hv⟩ : ∃ vv, vv = leadF (h.mi 283) ka X.ns := ⟨_, rfl⟩
      have g1 := m_217y (k := ka) (by omega) G T nl r3a
      rw [ev, ← hv, ← eka] at g1
      obtain ⟨H1, s1, s2, s3, f7, f9, f3, k90⟩ := in_g I Sa (CQ.rf) (Or.inr ⟨vv.toInt64, rfl⟩)
      have nl1 : ¬ (h.sl 290 0 vv.toInt64).mi 277 21 = 0 := by rw [f7, e21]; exact z_1
      have g2 := m_107y (i := ka) (nk := X.ns) (by omega) (by omega) H1 nl1 (by rw [show (h.sl 290 0 vv.toInt64).mi 283 9 = h.mi 283 9 from rfl, mea]; exact eia) (by rw [show (h.sl 290 0 vv.toInt64).mi 279 7 = h.mi 279 7 from rfl]; exact P.2.1.2.2.2.1)
      rw [f3, ← hv, ← eka] at g2
      obtain ⟨J, j7, j9, jm⟩ := in_cm I (CQ.rf) (Or.inr ⟨vv.toInt64, rfl⟩) (MQw.t (x := 0))
      obtain ⟨tl', e⟩ := lv_12 (tl := tl) hl hi ks s1 s2 k2 s3 j7 (m_5 jm) j9 (w_106 k2 k90 g1) g2 mi_ss sl_ml
      exact ⟨tl', _, e, J⟩
theorem st_22 {h0 : Mm} {c sc len : Nat} (Sa : STA h0 sc len) : STP h0 sc len c 1339 := by
  intro i tl h hi hI
  obtain ⟨X, u, d, b, cc, v, cap, I⟩ := hI
  have I : IN6 h0 c X u d b cc v cap h := I
  obtain ⟨ks, hl, k2, e4, e21⟩ := in_f I Sa
  have A := I.2.1
  have M := I.2.2.1
  have G := A.1.1
  have U := A.1.2.2.1
  have T := A.1.2.2.2.2.1
  cases hld : X.ld with
  | false =>
    rw [hld, b2i_0] at e4 e21
    obtain ⟨H1, s1, s2, s3, f7, f9, f3, -⟩ := in_g I Sa CQ.thr (Or.inl rfl)
    have g2 := m_87n (i := h.mi sc (i + 1)) H1 (by rw [f7]; exact e21)
    obtain ⟨J, j7, j9, jm⟩ := in_cm I CQ.thr (Or.inl rfl) (MQw.t (x := 1))
    obtain ⟨tl', e⟩ := lx_22 (tl := tl) hl hi ks s1 s2 k2 s3 j7 (m_5 jm) z_1 (w_86_x0 k2 (m_206n G T e4)) g2 mi_ss
    exact ⟨tl', _, e, J⟩
  | true =>
    rw [hld, b2i_1] at e4 e21
    have nl : ¬ h.mi 200 4 = 0 := by rw [e4]; exact z_1
    obtain ⟨i0, pc, n, q, E, V, Jj, P, -⟩ := in_cur I hld
    have VN := V.1.2
    have PN := P.2.1
    have cna : h.mi (b + 13) 0 = Int32.ofNat (n) := V.1.1.2.2.2.2.1
    have bda : n ≤ 80 := by omega
    have mea : h.mi 283 8 = Int32.ofNat (n) := E.1.2.2.2.2.2.2.2.2.trans V.1.1.2.2.2.2.1
    by_cases ra : h.mi sc (i + 1) < 0 ∨ ¬ h.mi sc (i + 1) < h.mi (b + 13) 0
    · skip
      obtain ⟨H1, s1, s2, s3, f7, f9, f3, -⟩ := in_g I Sa CQ.thr (Or.inl rfl)
      have g2 := m_87x (i := h.mi sc (i + 1)) H1 (by rw [f7, e21]; exact z_1) (by rw [show h.thr.mi 283 8 = h.mi 283 8 from rfl, mea]; exact rng_n (by omega) (by rw [← cna]; exact ra))
      obtain ⟨J, j7, j9, jm⟩ := in_cm I CQ.thr (Or.inl rfl) (MQw.t (x := 2))
      obtain ⟨tl', e⟩ := lx_22 (tl := tl) hl hi ks s1 s2 k2 s3 j7 (m_5 jm) two_0 (w_86_x1 k2 (m_206x G T nl ra)) g2 mi_ss
      exact ⟨tl', _, e, J⟩
    · skip
      have r0a : ¬ h.mi sc (i + 1) < 0 := fun z => ra (Or.inl z)
      have r1a : h.mi sc (i + 1) < h.mi (b + 13) 0 := Classical.byContradiction fun z => ra (Or.inr z)
      have r2a := r1a
      rw [cna] at r2a
      obtain ⟨eia, ka, hka, eka⟩ := rng_y (by omega) r0a r2a
      rw [eka] at eia
      have r3a : Int32.ofNat ka < h.mi (b + 13) 0 := by rw [← eka]; exact r1a
      have ev : oN (fnd (fun j => decide (worN (rowsAt h b) n j = Int32.ofNat ka)) n 0) = oN (fnd (fun j => decide (mwN (h.mi 283) n j = Int32.ofNat ka)) n 0) := by rw [q_worst E]
      obtain ⟨vv, hv⟩ : ∃ vv, vv = oN (fnd (fun j => decide (mwN (h.mi 283) n j = Int32.ofNat ka)) n 0) := ⟨_, rfl⟩
      have g1 := m_206y (k := ka) (by omega) G T nl r3a (n := n) (by omega) cna
      rw [ev, ← hv, ← eka] at g1
      obtain ⟨H1, s1, s2, s3, f7, f9, f3, k90⟩ := in_g I Sa (CQ.rf) (Or.inr ⟨vv.toInt64, rfl⟩)
      have nl1 : ¬ (h.sl 290 0 vv.toInt64).mi 277 21 = 0 := by rw [f7, e21]; exact z_1
      have g2 := m_87y (i := Int32.ofNat ka) (n := n) (by omega) H1 nl1 (by rw [show (h.sl 290 0 vv.toInt64).mi 283 8 = h.mi 283 8 from rfl, mea]; exact eia) mea
      rw [f3, ← hv, ← eka] at g2
      obtain ⟨J, j7, j9, jm⟩ := in_cm I (CQ.rf) (Or.inr ⟨vv.toInt64, rfl⟩) (MQw.t (x := 0))
      obtain ⟨tl', e⟩ := lv_22 (tl := tl) hl hi ks s1 s2 k2 s3 j7 (m_5 jm) j9 (w_86 k2 k90 g1) g2 mi_ss sl_ml
      exact ⟨tl', _, e, J⟩
theorem st_36 {h0 : Mm} {c sc len : Nat} (Sa : STA h0 sc len) : STP h0 sc len c 1860 := by
  intro i tl h hi hI
  obtain ⟨X, u, d, b, cc, v, cap, I⟩ := hI
  have I : IN6 h0 c X u d b cc v cap h := I
  obtain ⟨ks, hl, k2, e4, e21⟩ := in_f I Sa
  have A := I.2.1
  have M := I.2.2.1
  have G := A.1.1
  have U := A.1.2.2.1
  have T := A.1.2.2.2.2.1
  cases hld : X.ld with
  | false =>
    rw [hld, b2i_0] at e4 e21
    obtain ⟨H1, s1, s2, s3, f7, f9, f3, -⟩ := in_g I Sa CQ.thr (Or.inl rfl)
    have g2 := m_59n (i := h.mi sc (i + 1)) H1 (by rw [f7]; exact e21)
    obtain ⟨J, j7, j9, jm⟩ := in_cm I CQ.thr (Or.inl rfl) (MQw.t (x := 1))
    obtain ⟨tl', e⟩ := lx_36 (tl := tl) hl hi ks s1 s2 k2 s3 j7 (m_5 jm) z_1 (w_58_x0 k2 (m_194n G U e4)) g2 mi_ss
    exact ⟨tl', _, e, J⟩
  | true =>
    rw [hld, b2i_1] at e4 e21
    have nl : ¬ h.mi 200 4 = 0 := by rw [e4]; exact z_1
    obtain ⟨i0, pc, n, q, E, V, Jj, P, -⟩ := in_cur I hld
    have VN := V.1.2
    have PN := P.2.1
    have cna : h.mi u 11 = Int32.ofNat (X.ns) := P.2.1.2.2.1
    have bda : X.ns ≤ 4 := by omega
    have mea : h.mi 279 7 = Int32.ofNat (X.ns) := P.2.1.2.2.2.1
    by_cases ra : h.mi sc (i + 1) < 0 ∨ ¬ h.mi sc (i + 1) < h.mi u 11
    · skip
      obtain ⟨H1, s1, s2, s3, f7, f9, f3, -⟩ := in_g I Sa CQ.thr (Or.inl rfl)
      have g2 := m_59x (i := h.mi sc (i + 1)) H1 (by rw [f7, e21]; exact z_1) (by rw [show h.thr.mi 279 7 = h.mi 279 7 from rfl, mea]; exact rng_n (by omega) (by rw [← cna]; exact ra))
      obtain ⟨J, j7, j9, jm⟩ := in_cm I CQ.thr (Or.inl rfl) (MQw.t (x := 2))
      obtain ⟨tl', e⟩ := lx_36 (tl := tl) hl hi ks s1 s2 k2 s3 j7 (m_5 jm) two_0 (w_58_x1 k2 (m_194x G U nl ra)) g2 mi_ss
      exact ⟨tl', _, e, J⟩
    · skip
      have r0a : ¬ h.mi sc (i + 1) < 0 := fun z => ra (Or.inl z)
      have r1a : h.mi sc (i + 1) < h.mi u 11 := Classical.byContradiction fun z => ra (Or.inr z)
      have r2a := r1a
      rw [cna] at r2a
      obtain ⟨eia, ka, hka, eka⟩ := rng_y (by omega) r0a r2a
      rw [eka] at eia
      have r3a : Int32.ofNat ka < h.mi u 11 := by rw [← eka]; exact r1a
      have ev : fl (exO (rowsAt h b) (Int32.ofNat ka)) n 0 0 = fl (ovS (h.mi 283) (Int32.ofNat ka)) n 0 0 := q_ov E (oN_s (by omega))
      obtain ⟨vv, hv⟩ : ∃ vv, vv = fl (ovS (h.mi 283) (Int32.ofNat ka)) n 0 0 := ⟨_, rfl⟩
      have g1 := m_194y (k := ka) (by omega) G U T nl r3a (n := n) (by omega) V.1.1.2.2.2.2.1
      rw [ev, ← hv, ← eka] at g1
      obtain ⟨H1, s1, s2, s3, f7, f9, f3, k90⟩ := in_g I Sa (CQ.rf) (Or.inr ⟨vv.toInt64, rfl⟩)
      have nl1 : ¬ (h.sl 290 0 vv.toInt64).mi 277 21 = 0 := by rw [f7, e21]; exact z_1
      have g2 := m_59y (i := Int32.ofNat ka) (n := n) (by omega) H1 nl1 (by rw [show (h.sl 290 0 vv.toInt64).mi 279 7 = h.mi 279 7 from rfl, mea]; exact eia) (E.1.2.2.2.2.2.2.2.2.trans V.1.1.2.2.2.2.1)
      rw [f3, ← hv, ← eka] at g2
      obtain ⟨J, j7, j9, jm⟩ := in_cm I (CQ.rf) (Or.inr ⟨vv.toInt64, rfl⟩) (MQw.t (x := 0))
      obtain ⟨tl', e⟩ := lv_36 (tl := tl) hl hi ks s1 s2 k2 s3 j7 (m_5 jm) j9 (w_58 k2 k90 g1) g2 mi_ss sl_ml
      exact ⟨tl', _, e, J⟩
theorem st_37 {h0 : Mm} {c sc len : Nat} (Sa : STA h0 sc len) : STP h0 sc len c 1916 := by
  intro i tl h hi hI
  obtain ⟨X, u, d, b, cc, v, cap, I⟩ := hI
  have I : IN6 h0 c X u d b cc v cap h := I
  obtain ⟨ks, hl, k2, e4, e21⟩ := in_f I Sa
  have A := I.2.1
  have M := I.2.2.1
  have G := A.1.1
  have U := A.1.2.2.1
  have T := A.1.2.2.2.2.1
  cases hld : X.ld with
  | false =>
    rw [hld, b2i_0] at e4 e21
    obtain ⟨H1, s1, s2, s3, f7, f9, f3, -⟩ := in_g I Sa CQ.thr (Or.inl rfl)
    have g2 := m_57n (i := h.mi sc (i + 1)) H1 (by rw [f7]; exact e21)
    obtain ⟨J, j7, j9, jm⟩ := in_cm I CQ.thr (Or.inl rfl) (MQw.t (x := 1))
    obtain ⟨tl', e⟩ := lx_37 (tl := tl) hl hi ks s1 s2 k2 s3 j7 (m_5 jm) z_1 (w_56_x0 k2 (m_193n G U e4)) g2 mi_ss
    exact ⟨tl', _, e, J⟩
  | true =>
    rw [hld, b2i_1] at e4 e21
    have nl : ¬ h.mi 200 4 = 0 := by rw [e4]; exact z_1
    obtain ⟨i0, pc, n, q, E, V, Jj, P, -⟩ := in_cur I hld
    have VN := V.1.2
    have PN := P.2.1
    have cna : h.mi u 11 = Int32.ofNat (X.ns) := P.2.1.2.2.1
    have bda : X.ns ≤ 4 := by omega
    have mea : h.mi 279 7 = Int32.ofNat (X.ns) := P.2.1.2.2.2.1
    by_cases ra : h.mi sc (i + 1) < 0 ∨ ¬ h.mi sc (i + 1) < h.mi u 11
    · skip
      obtain ⟨H1, s1, s2, s3, f7, f9, f3, -⟩ := in_g I Sa CQ.thr (Or.inl rfl)
      have g2 := m_57x (i := h.mi sc (i + 1)) H1 (by rw [f7, e21]; exact z_1) (by rw [show h.thr.mi 279 7 = h.mi 279 7 from rfl, mea]; exact rng_n (by omega) (by rw [← cna]; exact ra))
      obtain ⟨J, j7, j9, jm⟩ := in_cm I CQ.thr (Or.inl rfl) (MQw.t (x := 2))
      obtain ⟨tl', e⟩ := lx_37 (tl := tl) hl hi ks s1 s2 k2 s3 j7 (m_5 jm) two_0 (w_56_x1 k2 (m_193x G U nl ra)) g2 mi_ss
      exact ⟨tl', _, e, J⟩
    · skip
      have r0a : ¬ h.mi sc (i + 1) < 0 := fun z => ra (Or.inl z)
      have r1a : h.mi sc (i + 1) < h.mi u 11 := Classical.byContradiction fun z => ra (Or.inr z)
      have r2a := r1a
      rw [cna] at r2a
      obtain ⟨eia, ka, hka, eka⟩ := rng_y (by omega) r0a r2a
      rw [eka] at eia
      have r3a : Int32.ofNat ka < h.mi u 11 := by rw [← eka]; exact r1a
      have hub : u + 7 ≤ b := by
        have z := A.2.1.1.1
        have z2 := A.1.2.1
        omega
      have e6 : h.mi u 6 = Int32.ofNat X.du := (P.1.1 6 (by decide)).trans P.2.2.2.2.1.1
      have ep : h.mi (u + 3 + ka) 2 = h.mi 279 (12 + ka) := by
        rw [show u + 3 + ka = u + (3 + ka) by omega]
        exact (P.2.2.2.1 ka hka).2.1
      have evp : erF (h.mi u 6) (h.mi (u + 3 + ka) 2) (rowsAt h b) ka n = emF (h.mi 279 (12 + ka)) (h.mi 283) ka n := by
        rw [e6, ep]
        exact q_er E V
      have ev : erF (h.mi u 6) (h.mi (u + 3 + ka) 2) (rowsAt h b) ka n = emF (h.mi 279 (12 + ka)) (h.mi 283) ka n := evp
      obtain ⟨vv, hv⟩ : ∃ vv, vv = emF (h.mi 279 (12 + ka)) (h.mi 283) ka n := ⟨_, rfl⟩
      have g1 := m_193y (k := ka) (by omega) G U T nl r3a (n := n) hub (by omega) V.1.1.2.2.2.2.1
      rw [ev, ← hv, ← eka] at g1
      obtain ⟨H1, s1, s2, s3, f7, f9, f3, k90⟩ := in_g I Sa (CQ.rf) (Or.inr ⟨vv.toInt64, rfl⟩)
      have nl1 : ¬ (h.sl 290 0 vv.toInt64).mi 277 21 = 0 := by rw [f7, e21]; exact z_1
      have g2 := m_57y (k := ka) (n := n) (by omega) (by omega) H1 nl1 (by rw [show (h.sl 290 0 vv.toInt64).mi 279 7 = h.mi 279 7 from rfl, mea]; exact eia) (E.1.2.2.2.2.2.2.2.2.trans V.1.1.2.2.2.2.1)
      rw [f3, f9, ← hv, ← eka] at g2
      obtain ⟨J, j7, j9, jm⟩ := in_cm I (CQ.rf) (Or.inr ⟨vv.toInt64, rfl⟩) (MQw.t (x := 0))
      obtain ⟨tl', e⟩ := lv_37 (tl := tl) hl hi ks s1 s2 k2 s3 j7 (m_5 jm) j9 (w_56 k2 k90 g1) g2 mi_ss sl_ml
      exact ⟨tl', _, e, J⟩
theorem st_8 {h0 : Mm} {c sc len : Nat} (Sa : STA h0 sc len) : STP h0 sc len c 562 := by
  intro i tl h hi hI
  obtain ⟨X, u, d, b, cc, v, cap, I⟩ := hI
  have I : IN6 h0 c X u d b cc v cap h := I
  obtain ⟨ks, hl, k2, e4, e21⟩ := in_f I Sa
  have A := I.2.1
  have M := I.2.2.1
  have G := A.1.1
  have U := A.1.2.2.1
  have T := A.1.2.2.2.2.1
  cases hld : X.ld with
  | false =>
    rw [hld, b2i_0] at e4 e21
    obtain ⟨H1, s1, s2, s3, f7, f9, f3, -⟩ := in_g I Sa CQ.thr (Or.inl rfl)
    have g2 := m_115n (i := h.mi sc (i + 1)) (j := h.mi sc (i + 2)) H1 (by rw [f7]; exact e21)
    obtain ⟨J, j7, j9, jm⟩ := in_cm I CQ.thr (Or.inl rfl) (MQw.t (x := 1))
    obtain ⟨tl', e⟩ := lx_8 (tl := tl) hl hi ks s1 s2 k2 s3 j7 (m_5 jm) z_1 (w_114_x0 k2 (m_224n G T e4)) g2 mi_ss
    exact ⟨tl', _, e, J⟩
  | true =>
    rw [hld, b2i_1] at e4 e21
    have nl : ¬ h.mi 200 4 = 0 := by rw [e4]; exact z_1
    obtain ⟨i0, pc, n, q, E, V, Jj, P, -⟩ := in_cur I hld
    have VN := V.1.2
    have PN := P.2.1
    have cna : h.mi (b + 7) 0 = Int32.ofNat (X.cu.1) := V.1.1.2.2.1
    have bda : X.cu.1 ≤ 80 := by omega
    have mea : h.mi 283 9 = Int32.ofNat (X.cu.1) := E.1.2.2.2.2.2.2.2.1.trans V.1.1.2.2.1
    by_cases ra : h.mi sc (i + 1) < 0 ∨ ¬ h.mi sc (i + 1) < h.mi (b + 7) 0
    · skip
      obtain ⟨H1, s1, s2, s3, f7, f9, f3, -⟩ := in_g I Sa CQ.thr (Or.inl rfl)
      have g2 := m_115x (i := h.mi sc (i + 1)) (j := h.mi sc (i + 2)) H1 (by rw [f7, e21]; exact z_1) (by rw [show h.thr.mi 283 9 = h.mi 283 9 from rfl, mea]; exact rng_n (by omega) (by rw [← cna]; exact ra))
      obtain ⟨J, j7, j9, jm⟩ := in_cm I CQ.thr (Or.inl rfl) (MQw.t (x := 2))
      obtain ⟨tl', e⟩ := lx_8 (tl := tl) hl hi ks s1 s2 k2 s3 j7 (m_5 jm) two_0 (w_114_x1 k2 (m_224x G T nl ra)) g2 mi_ss
      exact ⟨tl', _, e, J⟩
    · skip
      have r0a : ¬ h.mi sc (i + 1) < 0 := fun z => ra (Or.inl z)
      have r1a : h.mi sc (i + 1) < h.mi (b + 7) 0 := Classical.byContradiction fun z => ra (Or.inr z)
      have r2a := r1a
      rw [cna] at r2a
      obtain ⟨eia, ka, hka, eka⟩ := rng_y (by omega) r0a r2a
      rw [eka] at eia
      have r3a : Int32.ofNat ka < h.mi (b + 7) 0 := by rw [← eka]; exact r1a
      have cnb : h.mi u 11 = Int32.ofNat (X.ns) := P.2.1.2.2.1
      have bdb : X.ns ≤ 4 := by omega
      have meb : h.mi 279 7 = Int32.ofNat (X.ns) := P.2.1.2.2.2.1
      by_cases rb : h.mi sc (i + 2) < 0 ∨ ¬ h.mi sc (i + 2) < h.mi u 11
      · skip
        obtain ⟨H1, s1, s2, s3, f7, f9, f3, -⟩ := in_g I Sa CQ.thr (Or.inl rfl)
        have g2 := m_115z (i := h.mi sc (i + 1)) (j := h.mi sc (i + 2)) H1 (by rw [f7, e21]; exact z_1) (by rw [show h.thr.mi 283 9 = h.mi 283 9 from rfl, mea, eka]; exact eia) (by rw [show h.thr.mi 279 7 = h.mi 279 7 from rfl, meb]; exact rng_n (by omega) (by rw [← cnb]; exact rb))
        obtain ⟨J, j7, j9, jm⟩ := in_cm I CQ.thr (Or.inl rfl) (MQw.t (x := 2))
        obtain ⟨tl', e⟩ := lx_8 (tl := tl) hl hi ks s1 s2 k2 s3 j7 (m_5 jm) two_0 (w_114_x1 k2 (m_224z G T U nl r0a r1a rb)) g2 mi_ss
        exact ⟨tl', _, e, J⟩
      · skip
        have r0b : ¬ h.mi sc (i + 2) < 0 := fun z => rb (Or.inl z)
        have r1b : h.mi sc (i + 2) < h.mi u 11 := Classical.byContradiction fun z => rb (Or.inr z)
        have r2b := r1b
        rw [cnb] at r2b
        obtain ⟨eib, kb, hkb, ekb⟩ := rng_y (by omega) r0b r2b
        rw [ekb] at eib
        have r3b : Int32.ofNat kb < h.mi u 11 := by rw [← ekb]; exact r1b
        have ev : h.mi (b + 12) (ka * 4 + kb) = h.mi 283 (368 + 4 * ka + kb) := (E.2.2.2.2.2.2.1 ka kb hka (by omega)).symm
        obtain ⟨vv, hv⟩ : ∃ vv, vv = h.mi 283 (368 + 4 * ka + kb) := ⟨_, rfl⟩
        have g1 := m_224y (i := ka) (j := kb) (by omega) (by omega) G T U nl r3a r3b
        rw [ev, ← hv, ← eka, ← ekb] at g1
        obtain ⟨H1, s1, s2, s3, f7, f9, f3, k90⟩ := in_g I Sa (CQ.rf) (Or.inr ⟨vv.toInt64, rfl⟩)
        have nl1 : ¬ (h.sl 290 0 vv.toInt64).mi 277 21 = 0 := by rw [f7, e21]; exact z_1
        have g2 := m_115y (i := ka) (j := kb) (by omega) (by omega) H1 nl1 (by rw [show (h.sl 290 0 vv.toInt64).mi 283 9 = h.mi 283 9 from rfl, mea]; exact eia) (by rw [show (h.sl 290 0 vv.toInt64).mi 279 7 = h.mi 279 7 from rfl, meb]; exact eib)
        rw [f3, ← hv, ← eka, ← ekb] at g2
        obtain ⟨J, j7, j9, jm⟩ := in_cm I (CQ.rf) (Or.inr ⟨vv.toInt64, rfl⟩) (MQw.t (x := 0))
        obtain ⟨tl', e⟩ := lv_8 (tl := tl) hl hi ks s1 s2 k2 s3 j7 (m_5 jm) j9 (w_114 k2 k90 g1) g2 mi_ss sl_ml
        exact ⟨tl', _, e, J⟩
theorem st_13 {h0 : Mm} {c sc len : Nat} (Sa : STA h0 sc len) : STP h0 sc len c 854 := by
  intro i tl h hi hI
  obtain ⟨X, u, d, b, cc, v, cap, I⟩ := hI
  have I : IN6 h0 c X u d b cc v cap h := I
  obtain ⟨ks, hl, k2, e4, e21⟩ := in_f I Sa
  have A := I.2.1
  have M := I.2.2.1
  have G := A.1.1
  have U := A.1.2.2.1
  have T := A.1.2.2.2.2.1
  cases hld : X.ld with
  | false =>
    rw [hld, b2i_0] at e4 e21
    have z7 : h.mi 279 7 = Int32.ofNat 0 := (M.2.2.2.2.2.2 hld).2 7
    obtain ⟨H1, s1, s2, s3, f7, f9, f3, -⟩ := in_g I Sa CQ.thr (Or.inl rfl)
    have g2 := m_105n (k := h.mi sc (i + 1)) (p := h.mi sc (i + 2)) H1 (by rw [f7]; exact e21) (m_166k H1 (by rw [show h.thr.mi 279 7 = h.mi 279 7 from rfl, z7]; exact rng_n (by decide) (by by_cases z : h.mi sc (i + 1) < 0; exact Or.inl z; exact Or.inr z)))
    obtain ⟨J, j7, j9, jm⟩ := in_cm I CQ.thr (Or.inl rfl) (MQw.t (x := 1))
    obtain ⟨tl', e⟩ := lx_13 (tl := tl) hl hi ks s1 s2 k2 s3 j7 (m_5 jm) z_1 (w_104_x0 k2 (m_216n G U e4)) g2 mi_ss
    exact ⟨tl', _, e, J⟩
  | true =>
    rw [hld, b2i_1] at e4 e21
    have nl : ¬ h.mi 200 4 = 0 := by rw [e4]; exact z_1
    obtain ⟨i0, pc, n, q, E, V, Jj, P, -⟩ := in_cur I hld
    have VN := V.1.2
    have PN := P.2.1
    have cna : h.mi u 11 = Int32.ofNat (X.ns) := P.2.1.2.2.1
    have bda : X.ns ≤ 4 := by omega
    have mea : h.mi 279 7 = Int32.ofNat (X.ns) := P.2.1.2.2.2.1
    by_cases ra : h.mi sc (i + 1) < 0 ∨ ¬ h.mi sc (i + 1) < h.mi u 11
    · skip
      obtain ⟨H1, s1, s2, s3, f7, f9, f3, -⟩ := in_g I Sa CQ.thr (Or.inl rfl)
      have g2 := m_105x (k := h.mi sc (i + 1)) (p := h.mi sc (i + 2)) H1 (by rw [f7, e21]; exact z_1) (m_166k H1 (by rw [show h.thr.mi 279 7 = h.mi 279 7 from rfl, mea]; exact rng_n (by omega) (by rw [← cna]; exact ra)))
      obtain ⟨J, j7, j9, jm⟩ := in_cm I CQ.thr (Or.inl rfl) (MQw.t (x := 2))
      obtain ⟨tl', e⟩ := lx_13 (tl := tl) hl hi ks s1 s2 k2 s3 j7 (m_5 jm) two_0 (w_104_x1 k2 (m_216x G U nl ra)) g2 mi_ss
      exact ⟨tl', _, e, J⟩
    · skip
      have r0a : ¬ h.mi sc (i + 1) < 0 := fun z => ra (Or.inl z)
      have r1a : h.mi sc (i + 1) < h.mi u 11 := Classical.byContradiction fun z => ra (Or.inr z)
      have r2a := r1a
      rw [cna] at r2a
      obtain ⟨eia, ka, hka, eka⟩ := rng_y (by omega) r0a r2a
      rw [eka] at eia
      have r3a : Int32.ofNat ka < h.mi u 11 := by rw [← eka]; exact r1a
      have nbx := (P.2.2.2.1 ka hka).2.2.1
      obtain ⟨nb, nb1, nb2, nb3⟩ := nbx
      have cnp : h.mi (u + 3 + ka) 1 = Int32.ofNat nb := by
        rw [show u + 3 + ka = u + (3 + ka) by omega]
        exact (P.2.2.2.1 ka hka).1.trans nb3
      by_cases rp : h.mi sc (i + 2) < 0 ∨ ¬ h.mi sc (i + 2) < h.mi (u + 3 + ka) 1
      · skip
        obtain ⟨H1, s1, s2, s3, f7, f9, f3, -⟩ := in_g I Sa CQ.thr (Or.inl rfl)
        have g2 := m_105x (k := h.mi sc (i + 1)) (p := h.mi sc (i + 2)) H1 (by rw [f7, e21]; exact z_1) (by rw [eka]; have := m_166 (k := ka) (p := h.mi sc (i + 2)) (by omega) H1 (by rw [show h.thr.mi 279 7 = h.mi 279 7 from rfl, mea]; exact eia); rw [show h.thr.mi 279 (8 + ka) = h.mi 279 (8 + ka) from rfl, nb3, rng_n (by omega) (by rw [← cnp]; exact rp)] at this; exact this)
        obtain ⟨J, j7, j9, jm⟩ := in_cm I CQ.thr (Or.inl rfl) (MQw.t (x := 2))
        obtain ⟨tl', e⟩ := lx_13 (tl := tl) hl hi ks s1 s2 k2 s3 j7 (m_5 jm) two_0 (w_104_x1 k2 (by rw [eka]; exact m_216p (k := ka) (by omega) G U nl r3a rp)) g2 mi_ss
        exact ⟨tl', _, e, J⟩
      · skip
        have r0p : ¬ h.mi sc (i + 2) < 0 := fun z => rp (Or.inl z)
        have r1p : h.mi sc (i + 2) < h.mi (u + 3 + ka) 1 := Classical.byContradiction fun z => rp (Or.inr z)
        have r2p := r1p
        rw [cnp] at r2p
        obtain ⟨eip, kp, hkp, ekp⟩ := rng_y (by omega) r0p r2p
        rw [ekp] at eip
        have r3p : Int32.ofNat kp < h.mi (u + 3 + ka) 1 := by rw [← ekp]; exact r1p
        have g166 : ∀ h1' : Mm, MO h1' → h1'.mi 279 = h.mi 279 → dM PG 166 [.ref 277, .int (Int32.ofNat ka), .int (Int32.ofNat kp)] h1' = some (.inl (some (.int 1)), h1') := fun h1' H1 e9 => by
          have := m_166 (k := ka) (p := Int32.ofNat kp) (by omega) H1 (by rw [e9, mea]; exact eia)
          rw [e9, nb3, eip] at this
          exact this
        have ev : h.mi (b + 6) (ka * 3 + kp) = h.mi 283 (26 + 3 * ka + kp) := (E.2.2.2.2.1 ka kp (by omega) (by omega)).symm
        obtain ⟨vv, hv⟩ : ∃ vv, vv = h.mi 283 (26 + 3 * ka + kp) := ⟨_, rfl⟩
        have g1 := m_216y (k := ka) (p := kp) (by omega) (by omega) G U T nl r3a r3p
        rw [ev, ← hv, ← eka, ← ekp] at g1
        obtain ⟨H1, s1, s2, s3, f7, f9, f3, k90⟩ := in_g I Sa (CQ.rf) (Or.inr ⟨vv.toInt64, rfl⟩)
        have nl1 : ¬ (h.sl 290 0 vv.toInt64).mi 277 21 = 0 := by rw [f7, e21]; exact z_1
        have g2 := m_105y (k := ka) (p := kp) (by omega) (by omega) H1 nl1 (g166 _ H1 f9)
        rw [f3, ← hv, ← eka, ← ekp] at g2
        obtain ⟨J, j7, j9, jm⟩ := in_cm I (CQ.rf) (Or.inr ⟨vv.toInt64, rfl⟩) (MQw.t (x := 0))
        obtain ⟨tl', e⟩ := lv_13 (tl := tl) hl hi ks s1 s2 k2 s3 j7 (m_5 jm) j9 (w_104 k2 k90 g1) g2 mi_ss sl_ml
        exact ⟨tl', _, e, J⟩
theorem st_14 {h0 : Mm} {c sc len : Nat} (Sa : STA h0 sc len) : STP h0 sc len c 922 := by
  intro i tl h hi hI
  obtain ⟨X, u, d, b, cc, v, cap, I⟩ := hI
  have I : IN6 h0 c X u d b cc v cap h := I
  obtain ⟨ks, hl, k2, e4, e21⟩ := in_f I Sa
  have A := I.2.1
  have M := I.2.2.1
  have G := A.1.1
  have U := A.1.2.2.1
  have T := A.1.2.2.2.2.1
  cases hld : X.ld with
  | false =>
    rw [hld, b2i_0] at e4 e21
    have z7 : h.mi 279 7 = Int32.ofNat 0 := (M.2.2.2.2.2.2 hld).2 7
    obtain ⟨H1, s1, s2, s3, f7, f9, f3, -⟩ := in_g I Sa CQ.thr (Or.inl rfl)
    have g2 := m_103n (k := h.mi sc (i + 1)) (p := h.mi sc (i + 2)) H1 (by rw [f7]; exact e21) (m_166k H1 (by rw [show h.thr.mi 279 7 = h.mi 279 7 from rfl, z7]; exact rng_n (by decide) (by by_cases z : h.mi sc (i + 1) < 0; exact Or.inl z; exact Or.inr z)))
    obtain ⟨J, j7, j9, jm⟩ := in_cm I CQ.thr (Or.inl rfl) (MQw.t (x := 1))
    obtain ⟨tl', e⟩ := lx_14 (tl := tl) hl hi ks s1 s2 k2 s3 j7 (m_5 jm) z_1 (w_102_x0 k2 (m_215n G U e4)) g2 mi_ss
    exact ⟨tl', _, e, J⟩
  | true =>
    rw [hld, b2i_1] at e4 e21
    have nl : ¬ h.mi 200 4 = 0 := by rw [e4]; exact z_1
    obtain ⟨i0, pc, n, q, E, V, Jj, P, -⟩ := in_cur I hld
    have VN := V.1.2
    have PN := P.2.1
    have cna : h.mi u 11 = Int32.ofNat (X.ns) := P.2.1.2.2.1
    have bda : X.ns ≤ 4 := by omega
    have mea : h.mi 279 7 = Int32.ofNat (X.ns) := P.2.1.2.2.2.1
    by_cases ra : h.mi sc (i + 1) < 0 ∨ ¬ h.mi sc (i + 1) < h.mi u 11
    · skip
      obtain ⟨H1, s1, s2, s3, f7, f9, f3, -⟩ := in_g I Sa CQ.thr (Or.inl rfl)
      have g2 := m_103x (k := h.mi sc (i + 1)) (p := h.mi sc (i + 2)) H1 (by rw [f7, e21]; exact z_1) (m_166k H1 (by rw [show h.thr.mi 279 7 = h.mi 279 7 from rfl, mea]; exact rng_n (by omega) (by rw [← cna]; exact ra)))
      obtain ⟨J, j7, j9, jm⟩ := in_cm I CQ.thr (Or.inl rfl) (MQw.t (x := 2))
      obtain ⟨tl', e⟩ := lx_14 (tl := tl) hl hi ks s1 s2 k2 s3 j7 (m_5 jm) two_0 (w_102_x1 k2 (m_215x G U nl ra)) g2 mi_ss
      exact ⟨tl', _, e, J⟩
    · skip
      have r0a : ¬ h.mi sc (i + 1) < 0 := fun z => ra (Or.inl z)
      have r1a : h.mi sc (i + 1) < h.mi u 11 := Classical.byContradiction fun z => ra (Or.inr z)
      have r2a := r1a
      rw [cna] at r2a
      obtain ⟨eia, ka, hka, eka⟩ := rng_y (by omega) r0a r2a
      rw [eka] at eia
      have r3a : Int32.ofNat ka < h.mi u 11 := by rw [← eka]; exact r1a
      have nbx := (P.2.2.2.1 ka hka).2.2.1
      obtain ⟨nb, nb1, nb2, nb3⟩ := nbx
      have cnp : h.mi (u + 3 + ka) 1 = Int32.ofNat nb := by
        rw [show u + 3 + ka = u + (3 + ka) by omega]
        exact (P.2.2.2.1 ka hka).1.trans nb3
      by_cases rp : h.mi sc (i + 2) < 0 ∨ ¬ h.mi sc (i + 2) < h.mi (u + 3 + ka) 1
      · skip
        obtain ⟨H1, s1, s2, s3, f7, f9, f3, -⟩ := in_g I Sa CQ.thr (Or.inl rfl)
        have g2 := m_103x (k := h.mi sc (i + 1)) (p := h.mi sc (i + 2)) H1 (by rw [f7, e21]; exact z_1) (by rw [eka]; have := m_166 (k := ka) (p := h.mi sc (i + 2)) (by omega) H1 (by rw [show h.thr.mi 279 7 = h.mi 279 7 from rfl, mea]; exact eia); rw [show h.thr.mi 279 (8 + ka) = h.mi 279 (8 + ka) from rfl, nb3, rng_n (by omega) (by rw [← cnp]; exact rp)] at this; exact this)
        obtain ⟨J, j7, j9, jm⟩ := in_cm I CQ.thr (Or.inl rfl) (MQw.t (x := 2))
        obtain ⟨tl', e⟩ := lx_14 (tl := tl) hl hi ks s1 s2 k2 s3 j7 (m_5 jm) two_0 (w_102_x1 k2 (by rw [eka]; exact m_215p (k := ka) (by omega) G U nl r3a rp)) g2 mi_ss
        exact ⟨tl', _, e, J⟩
      · skip
        have r0p : ¬ h.mi sc (i + 2) < 0 := fun z => rp (Or.inl z)
        have r1p : h.mi sc (i + 2) < h.mi (u + 3 + ka) 1 := Classical.byContradiction fun z => rp (Or.inr z)
        have r2p := r1p
        rw [cnp] at r2p
        obtain ⟨eip, kp, hkp, ekp⟩ := rng_y (by omega) r0p r2p
        rw [ekp] at eip
        have r3p : Int32.ofNat kp < h.mi (u + 3 + ka) 1 := by rw [← ekp]; exact r1p
        have g166 : ∀ h1' : Mm, MO h1' → h1'.mi 279 = h.mi 279 → dM PG 166 [.ref 277, .int (Int32.ofNat ka), .int (Int32.ofNat kp)] h1' = some (.inl (some (.int 1)), h1') := fun h1' H1 e9 => by
          have := m_166 (k := ka) (p := Int32.ofNat kp) (by omega) H1 (by rw [e9, mea]; exact eia)
          rw [e9, nb3, eip] at this
          exact this
        have ev : fl (fun i a => a + b2i (opB (rowsAt h b) i (Int32.ofNat ka) (Int32.ofNat kp))) X.cu.1 0 0 = fl (fun i a => a + b2i (moB (h.mi 283) i (Int32.ofNat ka) (Int32.ofNat kp))) X.cu.1 0 0 := q_in E
        obtain ⟨vv, hv⟩ : ∃ vv, vv = fl (fun i a => a + b2i (moB (h.mi 283) i (Int32.ofNat ka) (Int32.ofNat kp))) X.cu.1 0 0 := ⟨_, rfl⟩
        have g1 := m_215y (k := ka) (p := kp) (by omega) (by omega) G U T nl r3a r3p (m := X.cu.1) (by omega) V.1.1.2.2.1
        rw [ev, ← hv, ← eka, ← ekp] at g1
        obtain ⟨H1, s1, s2, s3, f7, f9, f3, k90⟩ := in_g I Sa (CQ.rf) (Or.inr ⟨vv.toInt64, rfl⟩)
        have nl1 : ¬ (h.sl 290 0 vv.toInt64).mi 277 21 = 0 := by rw [f7, e21]; exact z_1
        have g2 := m_103y (k := Int32.ofNat ka) (p := Int32.ofNat kp) (m := X.cu.1) (by omega) H1 nl1 (E.1.2.2.2.2.2.2.2.1.trans V.1.1.2.2.1) (g166 _ H1 f9)
        rw [f3, ← hv, ← eka, ← ekp] at g2
        obtain ⟨J, j7, j9, jm⟩ := in_cm I (CQ.rf) (Or.inr ⟨vv.toInt64, rfl⟩) (MQw.t (x := 0))
        obtain ⟨tl', e⟩ := lv_14 (tl := tl) hl hi ks s1 s2 k2 s3 j7 (m_5 jm) j9 (w_102 k2 k90 g1) g2 mi_ss sl_ml
        exact ⟨tl', _, e, J⟩
theorem st_46 {h0 : Mm} {c sc len : Nat} (Sa : STA h0 sc len) : STP h0 sc len c 2472 := by
  intro i tl h hi hI
  obtain ⟨X, u, d, b, cc, v, cap, I⟩ := hI
  have I : IN6 h0 c X u d b cc v cap h := I
  obtain ⟨ks, hl, k2, e4, e21⟩ := in_f I Sa
  have A := I.2.1
  have M := I.2.2.1
  have G := A.1.1
  have U := A.1.2.2.1
  have T := A.1.2.2.2.2.1
  cases hld : X.ld with
  | false =>
    rw [hld, b2i_0] at e4 e21
    have z7 : h.mi 279 7 = Int32.ofNat 0 := (M.2.2.2.2.2.2 hld).2 7
    obtain ⟨H1, s1, s2, s3, f7, f9, f3, -⟩ := in_g I Sa CQ.thr (Or.inl rfl)
    have g2 := m_39n (k := h.mi sc (i + 1)) (p := h.mi sc (i + 2)) H1 (by rw [f7]; exact e21) (m_166k H1 (by rw [show h.thr.mi 279 7 = h.mi 279 7 from rfl, z7]; exact rng_n (by decide) (by by_cases z : h.mi sc (i + 1) < 0; exact Or.inl z; exact Or.inr z)))
    obtain ⟨J, j7, j9, jm⟩ := in_cm I CQ.thr (Or.inl rfl) (MQw.t (x := 1))
    obtain ⟨tl', e⟩ := lx_46 (tl := tl) hl hi ks s1 s2 k2 s3 j7 (m_5 jm) z_1 (w_38_x0 k2 (m_180n G U e4)) g2 mi_ss
    exact ⟨tl', _, e, J⟩
  | true =>
    rw [hld, b2i_1] at e4 e21
    have nl : ¬ h.mi 200 4 = 0 := by rw [e4]; exact z_1
    obtain ⟨i0, pc, n, q, E, V, Jj, P, -⟩ := in_cur I hld
    have VN := V.1.2
    have PN := P.2.1
    have cna : h.mi u 11 = Int32.ofNat (X.ns) := P.2.1.2.2.1
    have bda : X.ns ≤ 4 := by omega
    have mea : h.mi 279 7 = Int32.ofNat (X.ns) := P.2.1.2.2.2.1
    by_cases ra : h.mi sc (i + 1) < 0 ∨ ¬ h.mi sc (i + 1) < h.mi u 11
    · skip
      obtain ⟨H1, s1, s2, s3, f7, f9, f3, -⟩ := in_g I Sa CQ.thr (Or.inl rfl)
      have g2 := m_39x (k := h.mi sc (i + 1)) (p := h.mi sc (i + 2)) H1 (by rw [f7, e21]; exact z_1) (m_166k H1 (by rw [show h.thr.mi 279 7 = h.mi 279 7 from rfl, mea]; exact rng_n (by omega) (by rw [← cna]; exact ra)))
      obtain ⟨J, j7, j9, jm⟩ := in_cm I CQ.thr (Or.inl rfl) (MQw.t (x := 2))
      obtain ⟨tl', e⟩ := lx_46 (tl := tl) hl hi ks s1 s2 k2 s3 j7 (m_5 jm) two_0 (w_38_x1 k2 (m_180x G U nl ra)) g2 mi_ss
      exact ⟨tl', _, e, J⟩
    · skip
      have r0a : ¬ h.mi sc (i + 1) < 0 := fun z => ra (Or.inl z)
      have r1a : h.mi sc (i + 1) < h.mi u 11 := Classical.byContradiction fun z => ra (Or.inr z)
      have r2a := r1a
      rw [cna] at r2a
      obtain ⟨eia, ka, hka, eka⟩ := rng_y (by omega) r0a r2a
      rw [eka] at eia
      have r3a : Int32.ofNat ka < h.mi u 11 := by rw [← eka]; exact r1a
      have nbx := (P.2.2.2.1 ka hka).2.2.1
      obtain ⟨nb, nb1, nb2, nb3⟩ := nbx
      have cnp : h.mi (u + 3 + ka) 1 = Int32.ofNat nb := by
        rw [show u + 3 + ka = u + (3 + ka) by omega]
        exact (P.2.2.2.1 ka hka).1.trans nb3
      by_cases rp : h.mi sc (i + 2) < 0 ∨ ¬ h.mi sc (i + 2) < h.mi (u + 3 + ka) 1
      · skip
        obtain ⟨H1, s1, s2, s3, f7, f9, f3, -⟩ := in_g I Sa CQ.thr (Or.inl rfl)
        have g2 := m_39x (k := h.mi sc (i + 1)) (p := h.mi sc (i + 2)) H1 (by rw [f7, e21]; exact z_1) (by rw [eka]; have := m_166 (k := ka) (p := h.mi sc (i + 2)) (by omega) H1 (by rw [show h.thr.mi 279 7 = h.mi 279 7 from rfl, mea]; exact eia); rw [show h.thr.mi 279 (8 + ka) = h.mi 279 (8 + ka) from rfl, nb3, rng_n (by omega) (by rw [← cnp]; exact rp)] at this; exact this)
        obtain ⟨J, j7, j9, jm⟩ := in_cm I CQ.thr (Or.inl rfl) (MQw.t (x := 2))
        obtain ⟨tl', e⟩ := lx_46 (tl := tl) hl hi ks s1 s2 k2 s3 j7 (m_5 jm) two_0 (w_38_x1 k2 (by rw [eka]; exact m_180p (k := ka) (by omega) G U nl r3a rp)) g2 mi_ss
        exact ⟨tl', _, e, J⟩
      · skip
        have r0p : ¬ h.mi sc (i + 2) < 0 := fun z => rp (Or.inl z)
        have r1p : h.mi sc (i + 2) < h.mi (u + 3 + ka) 1 := Classical.byContradiction fun z => rp (Or.inr z)
        have r2p := r1p
        rw [cnp] at r2p
        obtain ⟨eip, kp, hkp, ekp⟩ := rng_y (by omega) r0p r2p
        rw [ekp] at eip
        have r3p : Int32.ofNat kp < h.mi (u + 3 + ka) 1 := by rw [← ekp]; exact r1p
        have g166 : ∀ h1' : Mm, MO h1' → h1'.mi 279 = h.mi 279 → dM PG 166 [.ref 277, .int (Int32.ofNat ka), .int (Int32.ofNat kp)] h1' = some (.inl (some (.int 1)), h1') := fun h1' H1 e9 => by
          have := m_166 (k := ka) (p := Int32.ofNat kp) (by omega) H1 (by rw [e9, mea]; exact eia)
          rw [e9, nb3, eip] at this
          exact this
        have hal := al_lt (f := alF (rowsAt h b) ka) (d := pc)
        have h10 : 2 ^ pc ≤ 2 ^ 10 := Nat.pow_le_pow_right (by decide) (by omega)
        have hal2 : alN (alF (rowsAt h b) ka) pc 0 0 < 1024 := by omega
        have ev : (fl (bsS (rowsAt h b) pc (h.mi (b + 2) ka - h.mi (b + 6) (ka * 3 + kp)) (Int32.ofNat (alN (alF (rowsAt h b) ka) pc 0 0))) (alN (alF (rowsAt h b) ka) pc 0 0) 1 (-1, 0)).1 = oN (fl (msT (wvF (h.mi 283) pc ka) (h.mi 283 (26 + 3 * ka + kp)) (h.mi 283 (10 + ka))) (2 ^ pc - 1) 1 (none, 0)).1 := (bs_eq E V hka (by omega)).1
        obtain ⟨vv, hv⟩ : ∃ vv, vv = oN (fl (msT (wvF (h.mi 283) pc ka) (h.mi 283 (26 + 3 * ka + kp)) (h.mi 283 (10 + ka))) (2 ^ pc - 1) 1 (none, 0)).1 := ⟨_, rfl⟩
        have g1 := m_180y (k := ka) (p := kp) (by omega) (by omega) G U T nl r3a r3p (pc := pc) (al := alN (alF (rowsAt h b) ka) pc 0 0) (by omega) V.1.1.2.1 (fun j hj => (pool_it V hj).2.2) hal2 (ps_al pc 0 0 (by omega))
        rw [ev, ← hv, ← eka, ← ekp] at g1
        obtain ⟨H1, s1, s2, s3, f7, f9, f3, k90⟩ := in_g I Sa (CQ.rf) (Or.inr ⟨vv.toInt64, rfl⟩)
        have nl1 : ¬ (h.sl 290 0 vv.toInt64).mi 277 21 = 0 := by rw [f7, e21]; exact z_1
        have g2 := m_39y (pc := pc) (k := ka) (p := kp) (by omega) (by omega) (by omega) H1 nl1 (g166 _ H1 f9) (E.1.2.2.2.2.2.1.trans V.1.1.2.1) (fun j hj => by rw [f3, E.2.1 j hj]; exact (pool_it V hj).2.2)
        rw [f3, ← hv, ← eka, ← ekp] at g2
        obtain ⟨J, j7, j9, jm⟩ := in_cm I (CQ.rf) (Or.inr ⟨vv.toInt64, rfl⟩) (MQw.t (x := 0))
        obtain ⟨tl', e⟩ := lv_46 (tl := tl) hl hi ks s1 s2 k2 s3 j7 (m_5 jm) j9 (w_38 k2 k90 g1) g2 mi_ss sl_ml
        exact ⟨tl', _, e, J⟩
