-- ===== calls: changes =====
theorem rg0_n {i x : Int32} {n : Nat} (hn : n < 1000000) (h : i < 0 ∨ ¬ i ≤ x) (ex : x = Int32.ofNat n := by rfl) : inF i 0 x = 0 := by
  unfold inF
  by_cases c : i < 0
  · rw [if_pos c]
  · rw [if_neg c]
    have hi : ¬ i ≤ x := by
      rcases h with z | z
      · exact absurd z c
      · exact z
    rw [if_pos (Int32.not_le.mp hi)]
theorem rg0_y {i x : Int32} {n : Nat} (hn : n < 1000000) (h0 : ¬ i < 0) (h : i ≤ x) (ex : x = Int32.ofNat n := by rfl) : inF i 0 x = 1 ∧ ∃ k, k ≤ n ∧ i = Int32.ofNat k := by
  have h1 := h
  rw [ex, Int32.le_iff_toInt_le, i32_toInt (by omega)] at h1
  have h2 := Int32.not_lt.mp h0
  rw [Int32.le_iff_toInt_le] at h2
  have z1 : (0 : Int32).toInt = 0 := by decide
  refine ⟨?_, i.toInt.toNat, by omega, ?_⟩
  · unfold inF
    rw [if_neg h0, if_neg]
    exact Int32.not_lt.mpr h
  · apply Int32.toInt_inj.mp
    rw [i32_toInt (by omega)]
    omega
theorem st_53 {h0 : Mm} {c sc len : Nat} (Sa : STA h0 sc len) (hc : c ≤ 600) : STP h0 sc len c 2948 := by
  intro i tl h hi hI
  obtain ⟨X, u, d, b, cc, v, cap, I⟩ := hI
  have I : IN6 h0 c X u d b cc v cap h := I
  obtain ⟨ks, hl, k2, e4, e21⟩ := in_f I Sa
  have A := I.2.1
  have M := I.2.2.1
  have G := A.1.1
  have U := A.1.2.2.1
  have T := A.1.2.2.2.2.1
  cases hld : X.ld with
  | false =>
    rw [hld, b2i_0] at e4 e21
    obtain ⟨H1, s1, s2, s3, f7, f9, f3, -⟩ := in_g I Sa CQ.thr (Or.inl rfl)
    have g2 := m_25n (v := h.mi sc (i + 1)) H1 (by rw [f7]; exact e21)
    obtain ⟨J, j7, j9, jm⟩ := in_cm I CQ.thr (Or.inl rfl) (MQw.t (x := 1))
    obtain ⟨tl', e⟩ := lx_53 (tl := tl) hl hi ks s1 s2 k2 s3 j7 (m_5 jm) z_1 (w_24_x0 k2 (m_161n G e4)) g2 mi_ss
    exact ⟨tl', _, e, J⟩
  | true =>
    rw [hld, b2i_1] at e4 e21
    have nl : ¬ h.mi 200 4 = 0 := by rw [e4]; exact z_1
    obtain ⟨i0, pc, n, q, E, V, Jj, P, -⟩ := in_cur I hld
    have VN := V.1.2
    have PN := P.2.1
    by_cases r : h.mi sc (i + 1) < 0 ∨ ¬ h.mi sc (i + 1) ≤ 2
    · skip
      obtain ⟨H1, s1, s2, s3, f7, f9, f3, -⟩ := in_g I Sa CQ.thr (Or.inl rfl)
      have g2 := m_25x (v := h.mi sc (i + 1)) H1 (by rw [f7, e21]; exact z_1) (rg0_n (n := 2) (by decide) r)
      obtain ⟨J, j7, j9, jm⟩ := in_cm I CQ.thr (Or.inl rfl) (MQw.t (x := 2))
      obtain ⟨tl', e⟩ := lx_53 (tl := tl) hl hi ks s1 s2 k2 s3 j7 (m_5 jm) two_0 (w_24_x2 k2 (m_161x G nl r)) g2 mi_ss
      exact ⟨tl', _, e, J⟩
    · obtain ⟨ei, t, t2, et⟩ := rg0_y (n := 2) (i := h.mi sc (i + 1)) (x := 2) (by decide) (fun z => r (Or.inl z)) (Classical.byContradiction fun z => r (Or.inr z))
      obtain ⟨h1, rm⟩ := rem_y A M.1 I.2.2.2.2.2 hld
      obtain ⟨G1, U1, T1, i1, pc1, n1, q1, E1, V1, J1, P1⟩ := rm_f I hld rm
      have Z1 : RS X.ns X.du X.cu.1 X.cu.2.1 (rowsAt h1 b) (h.mi 283) := ⟨i1, pc1, n1, q1, E1, V1, J1⟩
      have hu := I.1.2.1
      have VN1 := V1.1.2
      have g1 := m_161y (i := h.mi sc (i + 1)) G nl (fun z => r (Or.inl z)) (Classical.byContradiction fun z => r (Or.inr z)) rm.1 G1 T1
      obtain ⟨vv, hv⟩ : ∃ vv, vv = h1.mi b 1 := ⟨_, rfl⟩
      rw [← hv] at g1
      obtain ⟨M1, H1, s1, s2, s3, fa, k90⟩ := in_w I Sa (rm_w (R := zu2 (rowsAt h1 b) 0 1 (h.mi sc (i + 1))) rm) (Or.inr ⟨vv.toInt64, rfl⟩)
      obtain ⟨h1', hh1⟩ : ∃ h1', h1' = (h1.sb b (zu2 (rowsAt h1 b) 0 1 (h.mi sc (i + 1)))).sl 290 0 vv.toInt64 := ⟨_, rfl⟩
      rw [← hh1] at M1 H1 s1 s2 s3 fa
      have f7 : h1'.mi 277 = h.mi 277 := fa 277 (by decide) (by decide)
      have f9 : h1'.mi 279 = h.mi 279 := fa 279 (by decide) (by decide)
      have f3 : h1'.mi 283 = h.mi 283 := fa 283 (by decide) (by decide)
      have nl1 : ¬ h1'.mi 277 21 = 0 := by rw [f7, e21]; exact z_1
      have h20 : h1'.mi 277 20 = Int32.ofNat X.nu := M1.2.1.2.2.2.2.2.2.1
      have g2 := m_25y (v := h.mi sc (i + 1)) hu H1 nl1 ei h20
      rw [f3, show h.mi 283 1 = h1.mi b 1 from E1.1.2.1, ← hv] at g2
      have Zn := ru_ok (v := h.mi sc (i + 1)) Z1
      subst hh1
      obtain ⟨J, j7, j9, jm⟩ := in_rem I hld rm Zn (Nat.le_add_right _ _) (qr_of (by omega) (fun k => by rw [z2_ne (by omega)]) (fun k => by rw [z2_ne (by omega)])) (Or.inr ⟨vv.toInt64, rfl⟩)
      obtain ⟨tl', e⟩ := lv_53 (tl := tl) hl hi ks s1 s2 k2 s3 j7 (m_5 jm) j9 (w_24 k2 k90 g1) g2 ch_0 sl_ml
      exact ⟨tl', _, e, J⟩
theorem st_54 {h0 : Mm} {c sc len : Nat} (Sa : STA h0 sc len) (hc : c ≤ 600) : STP h0 sc len c 3004 := by
  intro i tl h hi hI
  obtain ⟨X, u, d, b, cc, v, cap, I⟩ := hI
  have I : IN6 h0 c X u d b cc v cap h := I
  obtain ⟨ks, hl, k2, e4, e21⟩ := in_f I Sa
  have A := I.2.1
  have M := I.2.2.1
  have G := A.1.1
  have U := A.1.2.2.1
  have T := A.1.2.2.2.2.1
  cases hld : X.ld with
  | false =>
    rw [hld, b2i_0] at e4 e21
    obtain ⟨H1, s1, s2, s3, f7, f9, f3, -⟩ := in_g I Sa CQ.thr (Or.inl rfl)
    have g2 := m_23n (v := h.mi sc (i + 1)) H1 (by rw [f7]; exact e21)
    obtain ⟨J, j7, j9, jm⟩ := in_cm I CQ.thr (Or.inl rfl) (MQw.t (x := 1))
    obtain ⟨tl', e⟩ := lx_54 (tl := tl) hl hi ks s1 s2 k2 s3 j7 (m_5 jm) z_1 (w_22_x0 k2 (m_160n G e4)) g2 mi_ss
    exact ⟨tl', _, e, J⟩
  | true =>
    rw [hld, b2i_1] at e4 e21
    have nl : ¬ h.mi 200 4 = 0 := by rw [e4]; exact z_1
    obtain ⟨i0, pc, n, q, E, V, Jj, P, -⟩ := in_cur I hld
    have VN := V.1.2
    have PN := P.2.1
    by_cases r : h.mi sc (i + 1) < 0 ∨ ¬ h.mi sc (i + 1) ≤ 9999
    · skip
      obtain ⟨H1, s1, s2, s3, f7, f9, f3, -⟩ := in_g I Sa CQ.thr (Or.inl rfl)
      have g2 := m_23x (v := h.mi sc (i + 1)) H1 (by rw [f7, e21]; exact z_1) (rg0_n (n := 9999) (by decide) r)
      obtain ⟨J, j7, j9, jm⟩ := in_cm I CQ.thr (Or.inl rfl) (MQw.t (x := 2))
      obtain ⟨tl', e⟩ := lx_54 (tl := tl) hl hi ks s1 s2 k2 s3 j7 (m_5 jm) two_0 (w_22_x2 k2 (m_160x G nl r)) g2 mi_ss
      exact ⟨tl', _, e, J⟩
    · obtain ⟨ei, t, t2, et⟩ := rg0_y (n := 9999) (i := h.mi sc (i + 1)) (x := 9999) (by decide) (fun z => r (Or.inl z)) (Classical.byContradiction fun z => r (Or.inr z))
      obtain ⟨h1, rm⟩ := rem_y A M.1 I.2.2.2.2.2 hld
      obtain ⟨G1, U1, T1, i1, pc1, n1, q1, E1, V1, J1, P1⟩ := rm_f I hld rm
      have Z1 : RS X.ns X.du X.cu.1 X.cu.2.1 (rowsAt h1 b) (h.mi 283) := ⟨i1, pc1, n1, q1, E1, V1, J1⟩
      have hu := I.1.2.1
      have VN1 := V1.1.2
      have g1 := m_160y (i := h.mi sc (i + 1)) G nl (fun z => r (Or.inl z)) (Classical.byContradiction fun z => r (Or.inr z)) rm.1 G1 T1
      obtain ⟨vv, hv⟩ : ∃ vv, vv = h1.mi b 2 := ⟨_, rfl⟩
      rw [← hv] at g1
      obtain ⟨M1, H1, s1, s2, s3, fa, k90⟩ := in_w I Sa (rm_w (R := zu2 (rowsAt h1 b) 0 2 (h.mi sc (i + 1))) rm) (Or.inr ⟨vv.toInt64, rfl⟩)
      obtain ⟨h1', hh1⟩ : ∃ h1', h1' = (h1.sb b (zu2 (rowsAt h1 b) 0 2 (h.mi sc (i + 1)))).sl 290 0 vv.toInt64 := ⟨_, rfl⟩
      rw [← hh1] at M1 H1 s1 s2 s3 fa
      have f7 : h1'.mi 277 = h.mi 277 := fa 277 (by decide) (by decide)
      have f9 : h1'.mi 279 = h.mi 279 := fa 279 (by decide) (by decide)
      have f3 : h1'.mi 283 = h.mi 283 := fa 283 (by decide) (by decide)
      have nl1 : ¬ h1'.mi 277 21 = 0 := by rw [f7, e21]; exact z_1
      have h20 : h1'.mi 277 20 = Int32.ofNat X.nu := M1.2.1.2.2.2.2.2.2.1
      have g2 := m_23y (v := h.mi sc (i + 1)) hu H1 nl1 ei h20
      rw [f3, show h.mi 283 2 = h1.mi b 2 from E1.1.2.2.1, ← hv] at g2
      have Zn := (show RS X.ns X.du X.cu.1 X.cu.2.1 (zu2 (rowsAt h1 b) 0 2 (h.mi sc (i + 1))) (zu (h.mi 283) 2 (h.mi sc (i + 1))) by rw [et]; exact li_ok t2 Z1)
      subst hh1
      obtain ⟨J, j7, j9, jm⟩ := in_rem I hld rm Zn (Nat.le_add_right _ _) (qr_of (by omega) (fun k => by rw [z2_ne (by omega)]) (fun k => by rw [z2_ne (by omega)])) (Or.inr ⟨vv.toInt64, rfl⟩)
      obtain ⟨tl', e⟩ := lv_54 (tl := tl) hl hi ks s1 s2 k2 s3 j7 (m_5 jm) j9 (w_22 k2 k90 g1) g2 ch_0 sl_ml
      exact ⟨tl', _, e, J⟩
theorem st_55 {h0 : Mm} {c sc len : Nat} (Sa : STA h0 sc len) (hc : c ≤ 600) : STP h0 sc len c 3060 := by
  intro i tl h hi hI
  obtain ⟨X, u, d, b, cc, v, cap, I⟩ := hI
  have I : IN6 h0 c X u d b cc v cap h := I
  obtain ⟨ks, hl, k2, e4, e21⟩ := in_f I Sa
  have A := I.2.1
  have M := I.2.2.1
  have G := A.1.1
  have U := A.1.2.2.1
  have T := A.1.2.2.2.2.1
  cases hld : X.ld with
  | false =>
    rw [hld, b2i_0] at e4 e21
    obtain ⟨H1, s1, s2, s3, f7, f9, f3, -⟩ := in_g I Sa CQ.thr (Or.inl rfl)
    have g2 := m_21n (i := h.mi sc (i + 1)) (v := h.mi sc (i + 2)) H1 (by rw [f7]; exact e21)
    obtain ⟨J, j7, j9, jm⟩ := in_cm I CQ.thr (Or.inl rfl) (MQw.t (x := 1))
    obtain ⟨tl', e⟩ := lx_55 (tl := tl) hl hi ks s1 s2 k2 s3 j7 (m_5 jm) z_1 (w_20_x0 k2 (m_158n G U e4)) g2 mi_ss
    exact ⟨tl', _, e, J⟩
  | true =>
    rw [hld, b2i_1] at e4 e21
    have nl : ¬ h.mi 200 4 = 0 := by rw [e4]; exact z_1
    obtain ⟨i0, pc, n, q, E, V, Jj, P, -⟩ := in_cur I hld
    have VN := V.1.2
    have PN := P.2.1
    have cna : h.mi u 11 = Int32.ofNat (X.ns) := P.2.1.2.2.1
    have bda : X.ns ≤ 4 := by omega
    have mea : h.mi 279 7 = Int32.ofNat (X.ns) := P.2.1.2.2.2.1
    by_cases ra : h.mi sc (i + 1) < 0 ∨ ¬ h.mi sc (i + 1) < h.mi u 11
    · skip
      obtain ⟨H1, s1, s2, s3, f7, f9, f3, -⟩ := in_g I Sa CQ.thr (Or.inl rfl)
      have g2 := m_21x (i := h.mi sc (i + 1)) (v := h.mi sc (i + 2)) H1 (by rw [f7, e21]; exact z_1) (by rw [show h.thr.mi 279 7 = h.mi 279 7 from rfl, mea]; exact rng_n (by omega) (by rw [← cna]; exact ra))
      obtain ⟨J, j7, j9, jm⟩ := in_cm I CQ.thr (Or.inl rfl) (MQw.t (x := 2))
      obtain ⟨tl', e⟩ := lx_55 (tl := tl) hl hi ks s1 s2 k2 s3 j7 (m_5 jm) two_0 (w_20_x1 k2 (m_158x G U nl ra)) g2 mi_ss
      exact ⟨tl', _, e, J⟩
    · skip
      have r0a : ¬ h.mi sc (i + 1) < 0 := fun z => ra (Or.inl z)
      have r1a : h.mi sc (i + 1) < h.mi u 11 := Classical.byContradiction fun z => ra (Or.inr z)
      have r2a := r1a
      rw [cna] at r2a
      obtain ⟨eia, ka, hka, eka⟩ := rng_y (by omega) r0a r2a
      rw [eka] at eia
      have r3a : Int32.ofNat ka < h.mi u 11 := by rw [← eka]; exact r1a
      by_cases r : h.mi sc (i + 2) < 1 ∨ ¬ h.mi sc (i + 2) ≤ 30000
      · skip
        obtain ⟨H1, s1, s2, s3, f7, f9, f3, -⟩ := in_g I Sa CQ.thr (Or.inl rfl)
        have g2 := m_21z (i := h.mi sc (i + 1)) (v := h.mi sc (i + 2)) H1 (by rw [f7, e21]; exact z_1) (by rw [show h.thr.mi 279 7 = h.mi 279 7 from rfl, mea, eka]; exact eia) (rg1_n (n := 30000) (by decide) r)
        obtain ⟨J, j7, j9, jm⟩ := in_cm I CQ.thr (Or.inl rfl) (MQw.t (x := 3))
        obtain ⟨tl', e⟩ := lx_55 (tl := tl) hl hi ks s1 s2 k2 s3 j7 (m_5 jm) three_0 (w_20_x2 k2 (m_158z G U nl r0a r1a r)) g2 mi_ss
        exact ⟨tl', _, e, J⟩
      · obtain ⟨ei, t, t1, t2, et⟩ := rg1_y (n := 30000) (i := h.mi sc (i + 2)) (x := 30000) (by decide) (fun z => r (Or.inl z)) (Classical.byContradiction fun z => r (Or.inr z))
        obtain ⟨h1, rm⟩ := rem_y A M.1 I.2.2.2.2.2 hld
        obtain ⟨G1, U1, T1, i1, pc1, n1, q1, E1, V1, J1, P1⟩ := rm_f I hld rm
        have Z1 : RS X.ns X.du X.cu.1 X.cu.2.1 (rowsAt h1 b) (h.mi 283) := ⟨i1, pc1, n1, q1, E1, V1, J1⟩
        have hu := I.1.2.1
        have VN1 := V1.1.2
        have g1 := m_158y (k := ka) (v := h.mi sc (i + 2)) (by omega) G U nl r3a (fun z => r (Or.inl z)) (Classical.byContradiction fun z => r (Or.inr z)) rm.1 G1 T1
        obtain ⟨vv, hv⟩ : ∃ vv, vv = h1.mi (b + 2) ka := ⟨_, rfl⟩
        rw [← hv, ← eka] at g1
        obtain ⟨M1, H1, s1, s2, s3, fa, k90⟩ := in_w I Sa (rm_w (R := zu2 (rowsAt h1 b) 2 ka (h.mi sc (i + 2))) rm) (Or.inr ⟨vv.toInt64, rfl⟩)
        obtain ⟨h1', hh1⟩ : ∃ h1', h1' = (h1.sb b (zu2 (rowsAt h1 b) 2 ka (h.mi sc (i + 2)))).sl 290 0 vv.toInt64 := ⟨_, rfl⟩
        rw [← hh1] at M1 H1 s1 s2 s3 fa
        have f7 : h1'.mi 277 = h.mi 277 := fa 277 (by decide) (by decide)
        have f9 : h1'.mi 279 = h.mi 279 := fa 279 (by decide) (by decide)
        have f3 : h1'.mi 283 = h.mi 283 := fa 283 (by decide) (by decide)
        have nl1 : ¬ h1'.mi 277 21 = 0 := by rw [f7, e21]; exact z_1
        have h20 : h1'.mi 277 20 = Int32.ofNat X.nu := M1.2.1.2.2.2.2.2.2.1
        have g2 := m_21y (k := ka) (v := h.mi sc (i + 2)) (by omega) hu H1 nl1 (by rw [f9, mea]; exact eia) ei h20
        rw [f3, show h.mi 283 (10 + ka) = h1.mi (b + 2) ka from (E1.2.2.1 ka hka).1, ← hv, ← eka] at g2
        have Zn := (show RS X.ns X.du X.cu.1 X.cu.2.1 (zu2 (rowsAt h1 b) 2 ka (h.mi sc (i + 2))) (zu (h.mi 283) (10 + ka) (h.mi sc (i + 2))) by rw [et]; exact tg_ok hka t1 t2 Z1)
        subst hh1
        obtain ⟨J, j7, j9, jm⟩ := in_rem I hld rm Zn (Nat.le_add_right _ _) (qr_of (by omega) (fun k => by rw [z2_ne (by omega)]) (fun k => by rw [z2_ne (by omega)])) (Or.inr ⟨vv.toInt64, rfl⟩)
        obtain ⟨tl', e⟩ := lv_55 (tl := tl) hl hi ks s1 s2 k2 s3 j7 (m_5 jm) j9 (w_20 k2 k90 g1) g2 ch_0 sl_ml
        exact ⟨tl', _, e, J⟩
theorem st_56 {h0 : Mm} {c sc len : Nat} (Sa : STA h0 sc len) (hc : c ≤ 600) : STP h0 sc len c 3128 := by
  intro i tl h hi hI
  obtain ⟨X, u, d, b, cc, v, cap, I⟩ := hI
  have I : IN6 h0 c X u d b cc v cap h := I
  obtain ⟨ks, hl, k2, e4, e21⟩ := in_f I Sa
  have A := I.2.1
  have M := I.2.2.1
  have G := A.1.1
  have U := A.1.2.2.1
  have T := A.1.2.2.2.2.1
  cases hld : X.ld with
  | false =>
    rw [hld, b2i_0] at e4 e21
    obtain ⟨H1, s1, s2, s3, f7, f9, f3, -⟩ := in_g I Sa CQ.thr (Or.inl rfl)
    have g2 := m_19n (i := h.mi sc (i + 1)) (j := h.mi sc (i + 2)) (v := h.mi sc (i + 3)) H1 (by rw [f7]; exact e21)
    obtain ⟨J, j7, j9, jm⟩ := in_cm I CQ.thr (Or.inl rfl) (MQw.t (x := 1))
    obtain ⟨tl', e⟩ := lx_56 (tl := tl) hl hi ks s1 s2 k2 s3 j7 (m_5 jm) z_1 (w_18_x0 k2 (m_153n G U e4)) g2 mi_ss
    exact ⟨tl', _, e, J⟩
  | true =>
    rw [hld, b2i_1] at e4 e21
    have nl : ¬ h.mi 200 4 = 0 := by rw [e4]; exact z_1
    obtain ⟨i0, pc, n, q, E, V, Jj, P, -⟩ := in_cur I hld
    have VN := V.1.2
    have PN := P.2.1
    have cna : h.mi u 11 = Int32.ofNat (X.ns) := P.2.1.2.2.1
    have bda : X.ns ≤ 4 := by omega
    have mea : h.mi 279 7 = Int32.ofNat (X.ns) := P.2.1.2.2.2.1
    by_cases ra : h.mi sc (i + 1) < 0 ∨ ¬ h.mi sc (i + 1) < h.mi u 11
    · skip
      obtain ⟨H1, s1, s2, s3, f7, f9, f3, -⟩ := in_g I Sa CQ.thr (Or.inl rfl)
      have g2 := m_19x (i := h.mi sc (i + 1)) (j := h.mi sc (i + 2)) (v := h.mi sc (i + 3)) H1 (by rw [f7, e21]; exact z_1) (by rw [show h.thr.mi 279 7 = h.mi 279 7 from rfl, mea]; exact rng_n (by omega) (by rw [← cna]; exact ra))
      obtain ⟨J, j7, j9, jm⟩ := in_cm I CQ.thr (Or.inl rfl) (MQw.t (x := 2))
      obtain ⟨tl', e⟩ := lx_56 (tl := tl) hl hi ks s1 s2 k2 s3 j7 (m_5 jm) two_0 (w_18_x1 k2 (m_153x G U nl ra)) g2 mi_ss
      exact ⟨tl', _, e, J⟩
    · skip
      have r0a : ¬ h.mi sc (i + 1) < 0 := fun z => ra (Or.inl z)
      have r1a : h.mi sc (i + 1) < h.mi u 11 := Classical.byContradiction fun z => ra (Or.inr z)
      have r2a := r1a
      rw [cna] at r2a
      obtain ⟨eia, ka, hka, eka⟩ := rng_y (by omega) r0a r2a
      rw [eka] at eia
      have r3a : Int32.ofNat ka < h.mi u 11 := by rw [← eka]; exact r1a
      have cnb : h.mi u 11 = Int32.ofNat (X.ns) := P.2.1.2.2.1
      have bdb : X.ns ≤ 4 := by omega
      have meb : h.mi 279 7 = Int32.ofNat (X.ns) := P.2.1.2.2.2.1
      by_cases rb : h.mi sc (i + 2) < 0 ∨ ¬ h.mi sc (i + 2) < h.mi u 11
      · skip
        obtain ⟨H1, s1, s2, s3, f7, f9, f3, -⟩ := in_g I Sa CQ.thr (Or.inl rfl)
        have g2 := m_19z (i := h.mi sc (i + 1)) (j := h.mi sc (i + 2)) (v := h.mi sc (i + 3)) H1 (by rw [f7, e21]; exact z_1) (by rw [show h.thr.mi 279 7 = h.mi 279 7 from rfl, mea, eka]; exact eia) (by rw [show h.thr.mi 279 7 = h.mi 279 7 from rfl, meb]; exact rng_n (by omega) (by rw [← cnb]; exact rb))
        obtain ⟨J, j7, j9, jm⟩ := in_cm I CQ.thr (Or.inl rfl) (MQw.t (x := 2))
        obtain ⟨tl', e⟩ := lx_56 (tl := tl) hl hi ks s1 s2 k2 s3 j7 (m_5 jm) two_0 (w_18_x1 k2 (m_153z G U nl r0a r1a rb)) g2 mi_ss
        exact ⟨tl', _, e, J⟩
      · skip
        have r0b : ¬ h.mi sc (i + 2) < 0 := fun z => rb (Or.inl z)
        have r1b : h.mi sc (i + 2) < h.mi u 11 := Classical.byContradiction fun z => rb (Or.inr z)
        have r2b := r1b
        rw [cnb] at r2b
        obtain ⟨eib, kb, hkb, ekb⟩ := rng_y (by omega) r0b r2b
        rw [ekb] at eib
        have r3b : Int32.ofNat kb < h.mi u 11 := by rw [← ekb]; exact r1b
        by_cases r : h.mi sc (i + 3) < 1 ∨ ¬ h.mi sc (i + 3) ≤ 999999
        · skip
          obtain ⟨H1, s1, s2, s3, f7, f9, f3, -⟩ := in_g I Sa CQ.thr (Or.inl rfl)
          have g2 := m_19r (i := h.mi sc (i + 1)) (j := h.mi sc (i + 2)) (v := h.mi sc (i + 3)) H1 (by rw [f7, e21]; exact z_1) (by rw [show h.thr.mi 279 7 = h.mi 279 7 from rfl, mea, eka]; exact eia) (by rw [show h.thr.mi 279 7 = h.mi 279 7 from rfl, meb, ekb]; exact eib) (rg1_n (n := 999999) (by decide) r)
          obtain ⟨J, j7, j9, jm⟩ := in_cm I CQ.thr (Or.inl rfl) (MQw.t (x := 3))
          obtain ⟨tl', e⟩ := lx_56 (tl := tl) hl hi ks s1 s2 k2 s3 j7 (m_5 jm) three_0 (w_18_x2 k2 (m_153r G U nl r0a r1a r0b r1b r)) g2 mi_ss
          exact ⟨tl', _, e, J⟩
        · obtain ⟨ei, xv, xv1, xv2, exv⟩ := rg1_y (n := 999999) (i := h.mi sc (i + 3)) (x := 999999) (by decide) (fun z => r (Or.inl z)) (Classical.byContradiction fun z => r (Or.inr z))
          have cme : cmB (rowsAt h b) ka kb (h.mi sc (i + 3)) = cmM (h.mi 283) ka kb (h.mi sc (i + 3)) := by
            unfold cmB cmM
            rw [(E.2.2.1 ka hka).2, (E.2.2.2.1 ka (by omega)).1]
          cases cm : cmB (rowsAt h b) ka kb (h.mi sc (i + 3)) with
          | false =>
            obtain ⟨H1, s1, s2, s3, f7, f9, f3, -⟩ := in_g I Sa CQ.thr (Or.inl rfl)
            have g2 := (show dM PG 19 [.ref 277, .int (h.mi sc (i + 1)), .int (h.mi sc (i + 2)), .int (h.mi sc (i + 3))] h.thr = some (.inl (some (.int 0)), h.thr.si 277 0 3) by rw [eka, ekb]; exact m_19m (f := ka) (t := kb) (v := h.mi sc (i + 3)) (by omega) (by omega) H1 (by rw [f7, e21]; exact z_1) (by rw [show h.thr.mi 279 7 = h.mi 279 7 from rfl, mea]; exact eia) (by rw [show h.thr.mi 279 7 = h.mi 279 7 from rfl, meb]; exact eib) ei (by rw [show h.thr.mi 283 = h.mi 283 from rfl, ← cme]; exact cm))
            obtain ⟨J, j7, j9, jm⟩ := in_cm I CQ.thr (Or.inl rfl) (MQw.t (x := 3))
            obtain ⟨tl', e⟩ := lx_56 (tl := tl) hl hi ks s1 s2 k2 s3 j7 (m_5 jm) three_0 (w_18_x2 k2 (by rw [eka, ekb]; exact m_153m (f := ka) (t := kb) (by omega) (by omega) G U T nl r3a r3b (fun z => r (Or.inl z)) (Classical.byContradiction fun z => r (Or.inr z)) cm)) g2 mi_ss
            exact ⟨tl', _, e, J⟩
          | true =>
            obtain ⟨h1, rm⟩ := rem_y A M.1 I.2.2.2.2.2 hld
            obtain ⟨G1, U1, T1, i1, pc1, n1, q1, E1, V1, J1, P1⟩ := rm_f I hld rm
            have Z1 : RS X.ns X.du X.cu.1 X.cu.2.1 (rowsAt h1 b) (h.mi 283) := ⟨i1, pc1, n1, q1, E1, V1, J1⟩
            have hu := I.1.2.1
            have VN1 := V1.1.2
            have g1 := m_153y (f := ka) (t := kb) (v := h.mi sc (i + 3)) (by omega) (by omega) G U T nl r3a r3b (fun z => r (Or.inl z)) (Classical.byContradiction fun z => r (Or.inr z)) cm rm.1 G1 T1
            obtain ⟨vv, hv⟩ : ∃ vv, vv = shQ (rowsAt h1 b) ka kb (h.mi sc (i + 3)) 3 ka := ⟨_, rfl⟩
            rw [← hv, ← eka, ← ekb] at g1
            obtain ⟨M1, H1, s1, s2, s3, fa, k90⟩ := in_w I Sa (rm_w (R := shQ (rowsAt h1 b) ka kb (h.mi sc (i + 3))) rm) (Or.inr ⟨vv.toInt64, rfl⟩)
            obtain ⟨h1', hh1⟩ : ∃ h1', h1' = (h1.sb b (shQ (rowsAt h1 b) ka kb (h.mi sc (i + 3)))).sl 290 0 vv.toInt64 := ⟨_, rfl⟩
            rw [← hh1] at M1 H1 s1 s2 s3 fa
            have f7 : h1'.mi 277 = h.mi 277 := fa 277 (by decide) (by decide)
            have f9 : h1'.mi 279 = h.mi 279 := fa 279 (by decide) (by decide)
            have f3 : h1'.mi 283 = h.mi 283 := fa 283 (by decide) (by decide)
            have nl1 : ¬ h1'.mi 277 21 = 0 := by rw [f7, e21]; exact z_1
            have h20 : h1'.mi 277 20 = Int32.ofNat X.nu := M1.2.1.2.2.2.2.2.2.1
            have g2 := m_19y (f := ka) (t := kb) (v := h.mi sc (i + 3)) (by omega) (by omega) hu H1 nl1 (by rw [f9, mea]; exact eia) (by rw [f9, meb]; exact eib) ei (by rw [f3, ← cme]; exact cm) h20
            have Zn : RS X.ns X.du X.cu.1 X.cu.2.1 (shQ (rowsAt h1 b) ka kb (h.mi sc (i + 3))) (shM (h.mi 283) ka kb (h.mi sc (i + 3))) := qu_ok hka hkb Z1
            rw [f3, show shM (h.mi 283) ka kb (h.mi sc (i + 3)) (14 + ka) = shQ (rowsAt h1 b) ka kb (h.mi sc (i + 3)) 3 ka from Zn.choose_spec.choose_spec.choose_spec.choose_spec.1.2.2.1 ka hka |>.2, ← hv, ← eka, ← ekb] at g2
            subst hh1
            obtain ⟨J, j7, j9, jm⟩ := in_rem I hld rm Zn (Nat.le_add_right _ _) (fun QA => by have cm1 : cmB (rowsAt h1 b) ka kb (h.mi sc (i + 3)) = true := by { unfold cmB at cm ⊢; rw [show rowsAt h1 b 3 = rowsAt h b 3 from rm.2.2.2.1 3 (by decide), show rowsAt h1 b 4 = rowsAt h b 4 from rm.2.2.2.1 4 (by decide)]; exact cm }; rw [exv] at cm1 ⊢; exact qr_of (by omega) (fun _ => rfl) (fun _ => rfl) (sh_ql (B := 1000000 * (c + 1)) (by omega) xv2 hka hkb cm1 QA)) (Or.inr ⟨vv.toInt64, rfl⟩)
            obtain ⟨tl', e⟩ := lv_56 (tl := tl) hl hi ks s1 s2 k2 s3 j7 (m_5 jm) j9 (w_18 k2 k90 g1) g2 ch_0 sl_ml
            exact ⟨tl', _, e, J⟩
theorem st_49 {h0 : Mm} {c sc len : Nat} (Sa : STA h0 sc len) (hc : c ≤ 600) : STP h0 sc len c 2664 := by
  intro i tl h hi hI
  obtain ⟨X, u, d, b, cc, v, cap, I⟩ := hI
  have I : IN6 h0 c X u d b cc v cap h := I
  obtain ⟨ks, hl, k2, e4, e21⟩ := in_f I Sa
  have A := I.2.1
  have M := I.2.2.1
  have G := A.1.1
  have U := A.1.2.2.1
  have T := A.1.2.2.2.2.1
  cases hld : X.ld with
  | false =>
    rw [hld, b2i_0] at e4 e21
    obtain ⟨H1, s1, s2, s3, f7, f9, f3, -⟩ := in_g I Sa CQ.thr (Or.inl rfl)
    have g2 := m_33n (i := h.mi sc (i + 1)) H1 (by rw [f7]; exact e21)
    obtain ⟨J, j7, j9, jm⟩ := in_cm I CQ.thr (Or.inl rfl) (MQw.t (x := 1))
    obtain ⟨tl', e⟩ := lx_49 (tl := tl) hl hi ks s1 s2 k2 s3 j7 (m_5 jm) z_1 (w_32_x0 k2 (m_174n G e4)) g2 mi_ss
    exact ⟨tl', _, e, J⟩
  | true =>
    rw [hld, b2i_1] at e4 e21
    have nl : ¬ h.mi 200 4 = 0 := by rw [e4]; exact z_1
    obtain ⟨i0, pc, n, q, E, V, Jj, P, TM⟩ := in_cur I hld
    have VN := V.1.2
    have PN := P.2.1
    by_cases r : h.mi sc (i + 1) < 1 ∨ ¬ h.mi sc (i + 1) ≤ 100
    · skip
      obtain ⟨H1, s1, s2, s3, f7, f9, f3, -⟩ := in_g I Sa CQ.thr (Or.inl rfl)
      have g2 := m_33x (i := h.mi sc (i + 1)) H1 (by rw [f7, e21]; exact z_1) (rg1_n (n := 100) (by decide) r)
      obtain ⟨J, j7, j9, jm⟩ := in_cm I CQ.thr (Or.inl rfl) (MQw.t (x := 2))
      obtain ⟨tl', e⟩ := lx_49 (tl := tl) hl hi ks s1 s2 k2 s3 j7 (m_5 jm) two_0 (w_32_x2 k2 (m_174x G nl r)) g2 mi_ss
      exact ⟨tl', _, e, J⟩
    · skip
      have ea0 := rg1_y (n := 100) (i := h.mi sc (i + 1)) (x := 100) (by decide) (fun z => r (Or.inl z)) (Classical.byContradiction fun z => r (Or.inr z))
      obtain ⟨ei, t, t1, t2, et⟩ := ea0
      have Tc := A.1.2.2.2.2.2.1
      have hbc := st_dis T Tc A.2.1.2.2.1
      have hub : u + 7 ≤ b := by
        have z := A.2.1.1.1
        have z2 := A.1.2.1
        omega
      have huc : u + 7 ≤ cc := by
        have z := A.2.1.2.1.1
        have z2 := A.1.2.1
        omega
      have hcc : cc + 19 ≤ 273 ∨ 291 ≤ cc := by
        have z := A.2.1.2.1.1
        omega
      have n13 : rowsAt h b 13 0 = Int32.ofNat n := V.1.1.2.2.2.2.1
      have n7 : h.mi (b + 7) 0 = Int32.ofNat X.cu.1 := V.1.1.2.2.1
      have Z : RS X.ns X.du X.cu.1 X.cu.2.1 (rowsAt h b) (h.mi 283) := ⟨i0, pc, n, q, E, V, Jj⟩
      have ht : X.cu.2.1 + t ≤ 1000000 := by omega
      have hD : ∀ o, o < 7 → h.mi (u + o) = rowsAt h u o := fun _ _ => rfl
      have m8 : h.mi 283 8 = Int32.ofNat n := E.1.2.2.2.2.2.2.2.2.trans n13
      have a1 : ¬ Int32.ofNat t < 1 := by rw [← et]; exact fun z => r (Or.inl z)
      have a2 : Int32.ofNat t ≤ 100 := by rw [← et]; exact Classical.byContradiction fun z => r (Or.inr z)
      rw [et] at ei
      obtain ⟨h1, rm⟩ := rem_y A M.1 I.2.2.2.2.2 hld
      obtain ⟨G1, U1, T1, i1, pc1, n1, q1, E1, V1, J1, P1⟩ := rm_f I hld rm
      have Z1 : RS X.ns X.du X.cu.1 X.cu.2.1 (rowsAt h1 b) (h.mi 283) := ⟨i1, pc1, n1, q1, E1, V1, J1⟩
      have hu := I.1.2.1
      have VN1 := V1.1.2
      have huz : u + 7 ≤ b := hub
      have r1 : dM PG 268 [.ref b, .ref u, .int (Int32.ofNat t)] h1 = some (.inl none, h1.sb b (it2 (tiC (rowsAt h1 u)) t (rowsAt h1 b))) := by
        have := s_268 (D := rowsAt h1 u) P1 Z1 ht hub T1 U1 (fun _ _ => rfl)
        rw [sb_id] at this
        exact this
      have g1 := m_174y (i := Int32.ofNat t) G nl a1 a2 rm.1 G1 T1 r1
      obtain ⟨vv, hv⟩ : ∃ vv, vv = it2 (tiC (rowsAt h1 u)) t (rowsAt h1 b) 13 0 - h1.mi (b + 13) 0 := ⟨_, rfl⟩
      rw [← hv, ← et] at g1
      obtain ⟨M1, H1, s1, s2, s3, fa, k90⟩ := in_w I Sa (rm_w (R := it2 (tiC (rowsAt h1 u)) t (rowsAt h1 b)) rm) (Or.inr ⟨vv.toInt64, rfl⟩)
      obtain ⟨h1', hh1⟩ : ∃ h1', h1' = (h1.sb b (it2 (tiC (rowsAt h1 u)) t (rowsAt h1 b))).sl 290 0 vv.toInt64 := ⟨_, rfl⟩
      rw [← hh1] at M1 H1 s1 s2 s3 fa
      have f7 : h1'.mi 277 = h.mi 277 := fa 277 (by decide) (by decide)
      have f9 : h1'.mi 279 = h.mi 279 := fa 279 (by decide) (by decide)
      have f3 : h1'.mi 283 = h.mi 283 := fa 283 (by decide) (by decide)
      have nl1 : ¬ h1'.mi 277 21 = 0 := by rw [f7, e21]; exact z_1
      have h20 : h1'.mi 277 20 = Int32.ofNat X.nu := M1.2.1.2.2.2.2.2.2.1
      have r2 : dM PG 176 [.ref 277, .ref 283, .int (Int32.ofNat t)] (h1'.chM X.nu (h1'.mi 283)) = some (.inl none, h1'.chM X.nu (it (tiM (h.mi 279)) t (h.mi 283))) := by
        rw [f3]
        exact s_176 (s := 283) (h := ((h1'.si 277 0 0).sw 286 (remH (h1'.mi 283) (h1'.mi 286) X.nu)).si 277 20 (Int32.ofNat (min X.nu 7 + 1))) P1 Z1 ht H1 (by decide) (mk_283 H1) (by rw [mi_sa (by decide), mi_swo (by decide), mi_sa (by decide)]; exact f9)
      have g2 := m_33y (i := Int32.ofNat t) hu H1 nl1 ei h20 r2
      have Zn : RS X.ns X.du X.cu.1 (X.cu.2.1 + t) (it2 (tiC (rowsAt h1 u)) t (rowsAt h1 b)) (it (tiM (h.mi 279)) t (h.mi 283)) := it_ok P1 t _ _ _ Z1 ht
      rw [f3, show it (tiM (h.mi 279)) t (h.mi 283) 8 = it2 (tiC (rowsAt h1 u)) t (rowsAt h1 b) 13 0 from Zn.choose_spec.choose_spec.choose_spec.choose_spec.1.1.2.2.2.2.2.2.2.2, show h.mi 283 8 = h1.mi (b + 13) 0 from E1.1.2.2.2.2.2.2.2.2, ← hv, ← et] at g2
      subst hh1
      obtain ⟨J, j7, j9, jm⟩ := in_rem I hld rm Zn (Nat.add_le_add_left t2 _) (fun QA => qr_of (by omega) (fun _ => rfl) (fun _ => rfl) (it_ql (by omega) P1 t _ _ _ Z1 ht QA)) (Or.inr ⟨vv.toInt64, rfl⟩)
      obtain ⟨tl', e⟩ := lv_49 (tl := tl) hl hi ks s1 s2 k2 s3 j7 (m_5 jm) j9 (w_32 k2 k90 g1) g2 ch_0 sl_ml
      exact ⟨tl', _, e, J⟩
