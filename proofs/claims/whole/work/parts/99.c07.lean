-- ===== calls: simple questions =====
theorem st_2 {h0 : Mm} {c sc len : Nat} (Sa : STA h0 sc len) : STP h0 sc len c 441 := by
  intro i tl h hi hI
  obtain ⟨X, u, d, b, cc, v, cap, I⟩ := hI
  have I : IN6 h0 c X u d b cc v cap h := I
  obtain ⟨ks, hl, k2, e4, e21⟩ := in_f I Sa
  have A := I.2.1
  have M := I.2.2.1
  have G := A.1.1
  have U := A.1.2.2.1
  have T := A.1.2.2.2.2.1
  have g1 := m_126 G
  have g2 := m_127 M.1
  obtain ⟨J, -⟩ := in_cm I CQ.rf (Or.inl rfl) (MQw.t (x := 0))
  rw [A.2.2.2.1.2.2.1] at g1
  rw [M.2.1.2.2.1] at g2
  exact ⟨tl, _, lc_2 hl hi ks ks rfl k2 (mk_277 M.1) g1 g2, J⟩
theorem st_3 {h0 : Mm} {c sc len : Nat} (Sa : STA h0 sc len) : STP h0 sc len c 454 := by
  intro i tl h hi hI
  obtain ⟨X, u, d, b, cc, v, cap, I⟩ := hI
  have I : IN6 h0 c X u d b cc v cap h := I
  obtain ⟨ks, hl, k2, e4, e21⟩ := in_f I Sa
  have A := I.2.1
  have M := I.2.2.1
  have G := A.1.1
  have U := A.1.2.2.1
  have T := A.1.2.2.2.2.1
  have g1 := m_124 G
  have g2 := m_125 M.1
  obtain ⟨J, -⟩ := in_cm I CQ.rf (Or.inl rfl) (MQw.t (x := 0))
  rw [A.2.2.2.1.2.2.2.1] at g1
  rw [M.2.1.2.2.2.1] at g2
  exact ⟨tl, _, lc_3 hl hi ks ks rfl k2 (mk_277 M.1) g1 g2, J⟩
theorem st_4 {h0 : Mm} {c sc len : Nat} (Sa : STA h0 sc len) : STP h0 sc len c 467 := by
  intro i tl h hi hI
  obtain ⟨X, u, d, b, cc, v, cap, I⟩ := hI
  have I : IN6 h0 c X u d b cc v cap h := I
  obtain ⟨ks, hl, k2, e4, e21⟩ := in_f I Sa
  have A := I.2.1
  have M := I.2.2.1
  have G := A.1.1
  have U := A.1.2.2.1
  have T := A.1.2.2.2.2.1
  have g1 := m_122 G
  have g2 := m_123 M.1
  obtain ⟨J, -⟩ := in_cm I CQ.rf (Or.inl rfl) (MQw.t (x := 0))
  rw [A.2.2.2.1.1] at g1
  rw [M.2.1.1] at g2
  exact ⟨tl, _, lc_4 hl hi ks ks rfl k2 (mk_277 M.1) g1 g2, J⟩
theorem st_58 {h0 : Mm} {c sc len : Nat} (Sa : STA h0 sc len) : STP h0 sc len c 3252 := by
  intro i tl h hi hI
  obtain ⟨X, u, d, b, cc, v, cap, I⟩ := hI
  have I : IN6 h0 c X u d b cc v cap h := I
  obtain ⟨ks, hl, k2, e4, e21⟩ := in_f I Sa
  have A := I.2.1
  have M := I.2.2.1
  have G := A.1.1
  have U := A.1.2.2.1
  have T := A.1.2.2.2.2.1
  have g1 := m_14 G
  have g2 := m_15 M.1
  obtain ⟨J, -⟩ := in_cm I CQ.rf (Or.inl rfl) (MQw.t (x := 0))
  rw [A.2.2.2.1.2.2.2.2.2.2.1] at g1
  rw [M.2.1.2.2.2.2.2.2.1] at g2
  exact ⟨tl, _, lc_58 hl hi ks ks rfl k2 (mk_277 M.1) g1 g2, J⟩
theorem st_5 {h0 : Mm} {c sc len : Nat} (Sa : STA h0 sc len) : STP h0 sc len c 480 := by
  intro i tl h hi hI
  obtain ⟨X, u, d, b, cc, v, cap, I⟩ := hI
  have I : IN6 h0 c X u d b cc v cap h := I
  obtain ⟨ks, hl, k2, e4, e21⟩ := in_f I Sa
  have A := I.2.1
  have M := I.2.2.1
  have G := A.1.1
  have U := A.1.2.2.1
  have T := A.1.2.2.2.2.1
  have g1 := m_120 G T
  have g2 := m_121 M.1
  obtain ⟨J, -⟩ := in_cm I CQ.rf (Or.inl rfl) (MQw.t (x := 0))
  cases hld : X.ld with
  | false =>
    rw [e4, hld, b2i_0, if_pos rfl] at g1
    rw [e21, hld, b2i_0, if_pos rfl] at g2
    exact ⟨tl, _, lc_5 hl hi ks ks rfl k2 (mk_277 M.1) g1 g2, J⟩
  | true =>
    obtain ⟨i0, pc, n, q, E, V, Jj, P, -⟩ := in_cur I hld
    rw [e4, hld, b2i_1, if_neg z_1] at g1
    rw [e21, hld, b2i_1, if_neg z_1, show h.mi 283 9 = h.mi (b + 7) 0 from E.1.2.2.2.2.2.2.2.1] at g2
    exact ⟨tl, _, lc_5 hl hi ks ks rfl k2 (mk_277 M.1) g1 g2, J⟩
theorem st_6 {h0 : Mm} {c sc len : Nat} (Sa : STA h0 sc len) : STP h0 sc len c 493 := by
  intro i tl h hi hI
  obtain ⟨X, u, d, b, cc, v, cap, I⟩ := hI
  have I : IN6 h0 c X u d b cc v cap h := I
  obtain ⟨ks, hl, k2, e4, e21⟩ := in_f I Sa
  have A := I.2.1
  have M := I.2.2.1
  have G := A.1.1
  have U := A.1.2.2.1
  have T := A.1.2.2.2.2.1
  have g1 := m_118 G U
  have g2 := m_119 M.1
  obtain ⟨J, -⟩ := in_cm I CQ.rf (Or.inl rfl) (MQw.t (x := 0))
  cases hld : X.ld with
  | false =>
    rw [e4, hld, b2i_0, if_pos rfl] at g1
    rw [e21, hld, b2i_0, if_pos rfl] at g2
    exact ⟨tl, _, lc_6 hl hi ks ks rfl k2 (mk_277 M.1) g1 g2, J⟩
  | true =>
    obtain ⟨i0, pc, n, q, E, V, Jj, P, -⟩ := in_cur I hld
    rw [e4, hld, b2i_1, if_neg z_1] at g1
    rw [e21, hld, b2i_1, if_neg z_1, show h.mi 279 7 = h.mi u 11 from P.2.1.2.2.2.1.trans P.2.1.2.2.1.symm] at g2
    exact ⟨tl, _, lc_6 hl hi ks ks rfl k2 (mk_277 M.1) g1 g2, J⟩
theorem st_15 {h0 : Mm} {c sc len : Nat} (Sa : STA h0 sc len) : STP h0 sc len c 990 := by
  intro i tl h hi hI
  obtain ⟨X, u, d, b, cc, v, cap, I⟩ := hI
  have I : IN6 h0 c X u d b cc v cap h := I
  obtain ⟨ks, hl, k2, e4, e21⟩ := in_f I Sa
  have A := I.2.1
  have M := I.2.2.1
  have G := A.1.1
  have U := A.1.2.2.1
  have T := A.1.2.2.2.2.1
  have g1 := m_100 G T
  have g2 := m_101 M.1
  obtain ⟨J, -⟩ := in_cm I CQ.rf (Or.inl rfl) (MQw.t (x := 0))
  cases hld : X.ld with
  | false =>
    rw [e4, hld, b2i_0, if_pos rfl] at g1
    rw [e21, hld, b2i_0, if_pos rfl] at g2
    exact ⟨tl, _, lc_15 hl hi ks ks rfl k2 (mk_277 M.1) g1 g2, J⟩
  | true =>
    obtain ⟨i0, pc, n, q, E, V, Jj, P, -⟩ := in_cur I hld
    rw [e4, hld, b2i_1, if_neg z_1] at g1
    rw [e21, hld, b2i_1, if_neg z_1, show h.mi 283 8 = h.mi (b + 13) 0 from E.1.2.2.2.2.2.2.2.2] at g2
    exact ⟨tl, _, lc_15 hl hi ks ks rfl k2 (mk_277 M.1) g1 g2, J⟩
theorem st_23 {h0 : Mm} {c sc len : Nat} (Sa : STA h0 sc len) : STP h0 sc len c 1395 := by
  intro i tl h hi hI
  obtain ⟨X, u, d, b, cc, v, cap, I⟩ := hI
  have I : IN6 h0 c X u d b cc v cap h := I
  obtain ⟨ks, hl, k2, e4, e21⟩ := in_f I Sa
  have A := I.2.1
  have M := I.2.2.1
  have G := A.1.1
  have U := A.1.2.2.1
  have T := A.1.2.2.2.2.1
  have g1 := m_84 G T
  have g2 := m_85 M.1
  obtain ⟨J, -⟩ := in_cm I CQ.rf (Or.inl rfl) (MQw.t (x := 0))
  cases hld : X.ld with
  | false =>
    rw [e4, hld, b2i_0, if_pos rfl] at g1
    rw [e21, hld, b2i_0, if_pos rfl] at g2
    exact ⟨tl, _, lc_23 hl hi ks ks rfl k2 (mk_277 M.1) g1 g2, J⟩
  | true =>
    obtain ⟨i0, pc, n, q, E, V, Jj, P, -⟩ := in_cur I hld
    rw [e4, hld, b2i_1, if_neg z_1] at g1
    rw [e21, hld, b2i_1, if_neg z_1, show h.mi 283 0 = h.mi b 0 from E.1.1] at g2
    exact ⟨tl, _, lc_23 hl hi ks ks rfl k2 (mk_277 M.1) g1 g2, J⟩
theorem st_24 {h0 : Mm} {c sc len : Nat} (Sa : STA h0 sc len) : STP h0 sc len c 1408 := by
  intro i tl h hi hI
  obtain ⟨X, u, d, b, cc, v, cap, I⟩ := hI
  have I : IN6 h0 c X u d b cc v cap h := I
  obtain ⟨ks, hl, k2, e4, e21⟩ := in_f I Sa
  have A := I.2.1
  have M := I.2.2.1
  have G := A.1.1
  have U := A.1.2.2.1
  have T := A.1.2.2.2.2.1
  have g1 := m_82 G T
  have g2 := m_83 M.1
  obtain ⟨J, -⟩ := in_cm I CQ.rf (Or.inl rfl) (MQw.t (x := 0))
  cases hld : X.ld with
  | false =>
    rw [e4, hld, b2i_0, if_pos rfl] at g1
    rw [e21, hld, b2i_0, if_pos rfl] at g2
    exact ⟨tl, _, lc_24 hl hi ks ks rfl k2 (mk_277 M.1) g1 g2, J⟩
  | true =>
    obtain ⟨i0, pc, n, q, E, V, Jj, P, -⟩ := in_cur I hld
    rw [e4, hld, b2i_1, if_neg z_1] at g1
    rw [e21, hld, b2i_1, if_neg z_1, show h.mi 283 1 = h.mi b 1 from E.1.2.1] at g2
    exact ⟨tl, _, lc_24 hl hi ks ks rfl k2 (mk_277 M.1) g1 g2, J⟩
theorem st_25 {h0 : Mm} {c sc len : Nat} (Sa : STA h0 sc len) : STP h0 sc len c 1421 := by
  intro i tl h hi hI
  obtain ⟨X, u, d, b, cc, v, cap, I⟩ := hI
  have I : IN6 h0 c X u d b cc v cap h := I
  obtain ⟨ks, hl, k2, e4, e21⟩ := in_f I Sa
  have A := I.2.1
  have M := I.2.2.1
  have G := A.1.1
  have U := A.1.2.2.1
  have T := A.1.2.2.2.2.1
  have g1 := m_80 G T
  have g2 := m_81 M.1
  obtain ⟨J, -⟩ := in_cm I CQ.rf (Or.inl rfl) (MQw.t (x := 0))
  cases hld : X.ld with
  | false =>
    rw [e4, hld, b2i_0, if_pos rfl] at g1
    rw [e21, hld, b2i_0, if_pos rfl] at g2
    exact ⟨tl, _, lc_25 hl hi ks ks rfl k2 (mk_277 M.1) g1 g2, J⟩
  | true =>
    obtain ⟨i0, pc, n, q, E, V, Jj, P, -⟩ := in_cur I hld
    rw [e4, hld, b2i_1, if_neg z_1] at g1
    rw [e21, hld, b2i_1, if_neg z_1, show h.mi 283 7 = h.mi b 5 from E.1.2.2.2.2.2.1] at g2
    exact ⟨tl, _, lc_25 hl hi ks ks rfl k2 (mk_277 M.1) g1 g2, J⟩
theorem st_27 {h0 : Mm} {c sc len : Nat} (Sa : STA h0 sc len) : STP h0 sc len c 1490 := by
  intro i tl h hi hI
  obtain ⟨X, u, d, b, cc, v, cap, I⟩ := hI
  have I : IN6 h0 c X u d b cc v cap h := I
  obtain ⟨ks, hl, k2, e4, e21⟩ := in_f I Sa
  have A := I.2.1
  have M := I.2.2.1
  have G := A.1.1
  have U := A.1.2.2.1
  have T := A.1.2.2.2.2.1
  have g1 := m_76 G T
  have g2 := m_77 M.1
  obtain ⟨J, -⟩ := in_cm I CQ.rf (Or.inl rfl) (MQw.t (x := 0))
  cases hld : X.ld with
  | false =>
    rw [e4, hld, b2i_0, if_pos rfl] at g1
    rw [e21, hld, b2i_0, if_pos rfl] at g2
    exact ⟨tl, _, lc_27 hl hi ks ks rfl k2 (mk_277 M.1) g1 g2, J⟩
  | true =>
    obtain ⟨i0, pc, n, q, E, V, Jj, P, -⟩ := in_cur I hld
    rw [e4, hld, b2i_1, if_neg z_1] at g1
    rw [e21, hld, b2i_1, if_neg z_1, show h.mi 283 3 = h.mi b 3 from E.1.2.2.2.1] at g2
    exact ⟨tl, _, lc_27 hl hi ks ks rfl k2 (mk_277 M.1) g1 g2, J⟩
theorem st_28 {h0 : Mm} {c sc len : Nat} (Sa : STA h0 sc len) : STP h0 sc len c 1503 := by
  intro i tl h hi hI
  obtain ⟨X, u, d, b, cc, v, cap, I⟩ := hI
  have I : IN6 h0 c X u d b cc v cap h := I
  obtain ⟨ks, hl, k2, e4, e21⟩ := in_f I Sa
  have A := I.2.1
  have M := I.2.2.1
  have G := A.1.1
  have U := A.1.2.2.1
  have T := A.1.2.2.2.2.1
  have g1 := m_74 G T
  have g2 := m_75 M.1
  obtain ⟨J, -⟩ := in_cm I CQ.rf (Or.inl rfl) (MQw.t (x := 0))
  cases hld : X.ld with
  | false =>
    rw [e4, hld, b2i_0, if_pos rfl] at g1
    rw [e21, hld, b2i_0, if_pos rfl] at g2
    exact ⟨tl, _, lc_28 hl hi ks ks rfl k2 (mk_277 M.1) g1 g2, J⟩
  | true =>
    obtain ⟨i0, pc, n, q, E, V, Jj, P, -⟩ := in_cur I hld
    rw [e4, hld, b2i_1, if_neg z_1] at g1
    rw [e21, hld, b2i_1, if_neg z_1, show h.mi 283 4 = h.mi b 4 from E.1.2.2.2.2.1] at g2
    exact ⟨tl, _, lc_28 hl hi ks ks rfl k2 (mk_277 M.1) g1 g2, J⟩
theorem st_7 {h0 : Mm} {c sc len : Nat} (Sa : STA h0 sc len) : STP h0 sc len c 506 := by
  intro i tl h hi hI
  obtain ⟨X, u, d, b, cc, v, cap, I⟩ := hI
  have I : IN6 h0 c X u d b cc v cap h := I
  obtain ⟨ks, hl, k2, e4, e21⟩ := in_f I Sa
  have A := I.2.1
  have M := I.2.2.1
  have G := A.1.1
  have U := A.1.2.2.1
  have T := A.1.2.2.2.2.1
  cases hld : X.ld with
  | false =>
    rw [hld, b2i_0] at e4 e21
    obtain ⟨H1, s1, s2, s3, f7, f9, f3, -⟩ := in_g I Sa CQ.thr (Or.inl rfl)
    have hm : h.thr.mi 283 9 = Int32.ofNat 0 := M.2.2.2.2.2.2 hld |>.1 9
    have g2 := m_117 (i := h.mi sc (i + 1)) (n := 0) (by decide) H1 hm
    rw [f7, e21, may_n, if_neg z_1] at g2
    obtain ⟨J, j7, j9, jm⟩ := in_cm I CQ.thr (Or.inl rfl) (MQw.t (x := 1))
    obtain ⟨tl', e⟩ := lx_7 (tl := tl) hl hi ks s1 s2 k2 s3 j7 (m_5 jm) z_1 (w_116_x0 k2 (m_225n G T e4)) g2 mi_ss
    exact ⟨tl', _, e, J⟩
  | true =>
    rw [hld, b2i_1] at e4 e21
    have nl : ¬ h.mi 200 4 = 0 := by rw [e4]; exact z_1
    obtain ⟨i0, pc, n, q, E, V, Jj, P, -⟩ := in_cur I hld
    have cn : h.mi (b + 7) 0 = Int32.ofNat (X.cu.1) := V.1.1.2.2.1
    have bd : X.cu.1 ≤ 80 := by have := V.1.2; omega
    have me : h.mi 283 9 = Int32.ofNat (X.cu.1) := E.1.2.2.2.2.2.2.2.1.trans V.1.1.2.2.1
    by_cases r : h.mi sc (i + 1) < 0 ∨ ¬ h.mi sc (i + 1) < h.mi (b + 7) 0
    · obtain ⟨H1, s1, s2, s3, f7, f9, f3, -⟩ := in_g I Sa CQ.thr (Or.inl rfl)
      have g2 := m_117 (i := h.mi sc (i + 1)) (n := X.cu.1) bd H1 me
      have r2 := r
      rw [cn] at r2
      rw [f7, e21, show h.thr.mi 283 9 = h.mi 283 9 from rfl, me, rng_n (by omega) r2, may_x, if_neg two_0] at g2
      obtain ⟨J, j7, j9, jm⟩ := in_cm I CQ.thr (Or.inl rfl) (MQw.t (x := 2))
      obtain ⟨tl', e⟩ := lx_7 (tl := tl) hl hi ks s1 s2 k2 s3 j7 (m_5 jm) two_0 (w_116_x1 k2 (m_225x G T nl r)) g2 mi_ss
      exact ⟨tl', _, e, J⟩
    · have r0 : ¬ h.mi sc (i + 1) < 0 := fun z => r (Or.inl z)
      have r1 : h.mi sc (i + 1) < h.mi (b + 7) 0 := Classical.byContradiction fun z => r (Or.inr z)
      have r2 := r1
      rw [cn] at r2
      obtain ⟨ei, k, hk, ek⟩ := rng_y (by omega) r0 r2
      have ev : h.mi (b + 8) k = h.mi 283 (208 + k) := by
        exact (E.2.2.2.2.2.1 k hk).1.symm
      obtain ⟨vv, hv⟩ : ∃ vv, vv = h.mi 283 (208 + k) := ⟨_, rfl⟩
      have g1 := m_225y (k := k) (by omega) G T nl (by rw [← ek]; exact r1)
      rw [ev, ← hv, ← ek] at g1
      obtain ⟨H1, s1, s2, s3, f7, f9, f3, k90⟩ := in_g I Sa CQ.rf (Or.inr ⟨vv.toInt64, rfl⟩)
      have g2 := m_117 (i := h.mi sc (i + 1)) (n := X.cu.1) bd H1 me
      have me2 : (h.sl 290 0 vv.toInt64).mi 283 9 = Int32.ofNat (X.cu.1) := me
      rw [f7, e21, me2, ei, may_y, if_pos rfl, f3, ek, i32_nat (by omega), ← hv, ← ek] at g2
      obtain ⟨J, j7, j9, jm⟩ := in_cm I CQ.rf (Or.inr ⟨vv.toInt64, rfl⟩) (MQw.t (x := 0))
      obtain ⟨tl', e⟩ := lv_7 (tl := tl) hl hi ks s1 s2 k2 s3 j7 (m_5 jm) j9 (w_116 k2 k90 g1) g2 mi_ss sl_ml
      exact ⟨tl', _, e, J⟩
theorem st_9 {h0 : Mm} {c sc len : Nat} (Sa : STA h0 sc len) : STP h0 sc len c 630 := by
  intro i tl h hi hI
  obtain ⟨X, u, d, b, cc, v, cap, I⟩ := hI
  have I : IN6 h0 c X u d b cc v cap h := I
  obtain ⟨ks, hl, k2, e4, e21⟩ := in_f I Sa
  have A := I.2.1
  have M := I.2.2.1
  have G := A.1.1
  have U := A.1.2.2.1
  have T := A.1.2.2.2.2.1
  cases hld : X.ld with
  | false =>
    rw [hld, b2i_0] at e4 e21
    obtain ⟨H1, s1, s2, s3, f7, f9, f3, -⟩ := in_g I Sa CQ.thr (Or.inl rfl)
    have hm : h.thr.mi 283 9 = Int32.ofNat 0 := M.2.2.2.2.2.2 hld |>.1 9
    have g2 := m_113 (i := h.mi sc (i + 1)) (n := 0) (by decide) H1 hm
    rw [f7, e21, may_n, if_neg z_1] at g2
    obtain ⟨J, j7, j9, jm⟩ := in_cm I CQ.thr (Or.inl rfl) (MQw.t (x := 1))
    obtain ⟨tl', e⟩ := lx_9 (tl := tl) hl hi ks s1 s2 k2 s3 j7 (m_5 jm) z_1 (w_112_x0 k2 (m_223n G T e4)) g2 mi_ss
    exact ⟨tl', _, e, J⟩
  | true =>
    rw [hld, b2i_1] at e4 e21
    have nl : ¬ h.mi 200 4 = 0 := by rw [e4]; exact z_1
    obtain ⟨i0, pc, n, q, E, V, Jj, P, -⟩ := in_cur I hld
    have cn : h.mi (b + 7) 0 = Int32.ofNat (X.cu.1) := V.1.1.2.2.1
    have bd : X.cu.1 ≤ 80 := by have := V.1.2; omega
    have me : h.mi 283 9 = Int32.ofNat (X.cu.1) := E.1.2.2.2.2.2.2.2.1.trans V.1.1.2.2.1
    by_cases r : h.mi sc (i + 1) < 0 ∨ ¬ h.mi sc (i + 1) < h.mi (b + 7) 0
    · obtain ⟨H1, s1, s2, s3, f7, f9, f3, -⟩ := in_g I Sa CQ.thr (Or.inl rfl)
      have g2 := m_113 (i := h.mi sc (i + 1)) (n := X.cu.1) bd H1 me
      have r2 := r
      rw [cn] at r2
      rw [f7, e21, show h.thr.mi 283 9 = h.mi 283 9 from rfl, me, rng_n (by omega) r2, may_x, if_neg two_0] at g2
      obtain ⟨J, j7, j9, jm⟩ := in_cm I CQ.thr (Or.inl rfl) (MQw.t (x := 2))
      obtain ⟨tl', e⟩ := lx_9 (tl := tl) hl hi ks s1 s2 k2 s3 j7 (m_5 jm) two_0 (w_112_x1 k2 (m_223x G T nl r)) g2 mi_ss
      exact ⟨tl', _, e, J⟩
    · have r0 : ¬ h.mi sc (i + 1) < 0 := fun z => r (Or.inl z)
      have r1 : h.mi sc (i + 1) < h.mi (b + 7) 0 := Classical.byContradiction fun z => r (Or.inr z)
      have r2 := r1
      rw [cn] at r2
      obtain ⟨ei, k, hk, ek⟩ := rng_y (by omega) r0 r2
      have ev : h.mi (b + 9) k = h.mi 283 (288 + k) := by
        exact (E.2.2.2.2.2.1 k hk).2.1.symm
      obtain ⟨vv, hv⟩ : ∃ vv, vv = h.mi 283 (288 + k) := ⟨_, rfl⟩
      have g1 := m_223y (k := k) (by omega) G T nl (by rw [← ek]; exact r1)
      rw [ev, ← hv, ← ek] at g1
      obtain ⟨H1, s1, s2, s3, f7, f9, f3, k90⟩ := in_g I Sa CQ.rf (Or.inr ⟨vv.toInt64, rfl⟩)
      have g2 := m_113 (i := h.mi sc (i + 1)) (n := X.cu.1) bd H1 me
      have me2 : (h.sl 290 0 vv.toInt64).mi 283 9 = Int32.ofNat (X.cu.1) := me
      rw [f7, e21, me2, ei, may_y, if_pos rfl, f3, ek, i32_nat (by omega), ← hv, ← ek] at g2
      obtain ⟨J, j7, j9, jm⟩ := in_cm I CQ.rf (Or.inr ⟨vv.toInt64, rfl⟩) (MQw.t (x := 0))
      obtain ⟨tl', e⟩ := lv_9 (tl := tl) hl hi ks s1 s2 k2 s3 j7 (m_5 jm) j9 (w_112 k2 k90 g1) g2 mi_ss sl_ml
      exact ⟨tl', _, e, J⟩
theorem st_10 {h0 : Mm} {c sc len : Nat} (Sa : STA h0 sc len) : STP h0 sc len c 686 := by
  intro i tl h hi hI
  obtain ⟨X, u, d, b, cc, v, cap, I⟩ := hI
  have I : IN6 h0 c X u d b cc v cap h := I
  obtain ⟨ks, hl, k2, e4, e21⟩ := in_f I Sa
  have A := I.2.1
  have M := I.2.2.1
  have G := A.1.1
  have U := A.1.2.2.1
  have T := A.1.2.2.2.2.1
  cases hld : X.ld with
  | false =>
    rw [hld, b2i_0] at e4 e21
    obtain ⟨H1, s1, s2, s3, f7, f9, f3, -⟩ := in_g I Sa CQ.thr (Or.inl rfl)
    have hm : h.thr.mi 283 9 = Int32.ofNat 0 := M.2.2.2.2.2.2 hld |>.1 9
    have g2 := m_111 (i := h.mi sc (i + 1)) (n := 0) (by decide) H1 hm
    rw [f7, e21, may_n, if_neg z_1] at g2
    obtain ⟨J, j7, j9, jm⟩ := in_cm I CQ.thr (Or.inl rfl) (MQw.t (x := 1))
    obtain ⟨tl', e⟩ := lx_10 (tl := tl) hl hi ks s1 s2 k2 s3 j7 (m_5 jm) z_1 (w_110_x0 k2 (m_221n G T e4)) g2 mi_ss
    exact ⟨tl', _, e, J⟩
  | true =>
    rw [hld, b2i_1] at e4 e21
    have nl : ¬ h.mi 200 4 = 0 := by rw [e4]; exact z_1
    obtain ⟨i0, pc, n, q, E, V, Jj, P, -⟩ := in_cur I hld
    have cn : h.mi (b + 7) 0 = Int32.ofNat (X.cu.1) := V.1.1.2.2.1
    have bd : X.cu.1 ≤ 80 := by have := V.1.2; omega
    have me : h.mi 283 9 = Int32.ofNat (X.cu.1) := E.1.2.2.2.2.2.2.2.1.trans V.1.1.2.2.1
    by_cases r : h.mi sc (i + 1) < 0 ∨ ¬ h.mi sc (i + 1) < h.mi (b + 7) 0
    · obtain ⟨H1, s1, s2, s3, f7, f9, f3, -⟩ := in_g I Sa CQ.thr (Or.inl rfl)
      have g2 := m_111 (i := h.mi sc (i + 1)) (n := X.cu.1) bd H1 me
      have r2 := r
      rw [cn] at r2
      rw [f7, e21, show h.thr.mi 283 9 = h.mi 283 9 from rfl, me, rng_n (by omega) r2, may_x, if_neg two_0] at g2
      obtain ⟨J, j7, j9, jm⟩ := in_cm I CQ.thr (Or.inl rfl) (MQw.t (x := 2))
      obtain ⟨tl', e⟩ := lx_10 (tl := tl) hl hi ks s1 s2 k2 s3 j7 (m_5 jm) two_0 (w_110_x1 k2 (m_221x G T nl r)) g2 mi_ss
      exact ⟨tl', _, e, J⟩
    · have r0 : ¬ h.mi sc (i + 1) < 0 := fun z => r (Or.inl z)
      have r1 : h.mi sc (i + 1) < h.mi (b + 7) 0 := Classical.byContradiction fun z => r (Or.inr z)
      have r2 := r1
      rw [cn] at r2
      obtain ⟨ei, k, hk, ek⟩ := rng_y (by omega) r0 r2
      have ev : h.mi (b + 10) k = h.mi 283 (48 + k) := by
        exact (E.2.2.2.2.2.1 k hk).2.2.1.symm
      obtain ⟨vv, hv⟩ : ∃ vv, vv = h.mi 283 (48 + k) := ⟨_, rfl⟩
      have g1 := m_221y (k := k) (by omega) G T nl (by rw [← ek]; exact r1)
      rw [ev, ← hv, ← ek] at g1
      obtain ⟨H1, s1, s2, s3, f7, f9, f3, k90⟩ := in_g I Sa CQ.rf (Or.inr ⟨vv.toInt64, rfl⟩)
      have g2 := m_111 (i := h.mi sc (i + 1)) (n := X.cu.1) bd H1 me
      have me2 : (h.sl 290 0 vv.toInt64).mi 283 9 = Int32.ofNat (X.cu.1) := me
      rw [f7, e21, me2, ei, may_y, if_pos rfl, f3, ek, i32_nat (by omega), ← hv, ← ek] at g2
      obtain ⟨J, j7, j9, jm⟩ := in_cm I CQ.rf (Or.inr ⟨vv.toInt64, rfl⟩) (MQw.t (x := 0))
      obtain ⟨tl', e⟩ := lv_10 (tl := tl) hl hi ks s1 s2 k2 s3 j7 (m_5 jm) j9 (w_110 k2 k90 g1) g2 mi_ss sl_ml
      exact ⟨tl', _, e, J⟩
theorem st_16 {h0 : Mm} {c sc len : Nat} (Sa : STA h0 sc len) : STP h0 sc len c 1003 := by
  intro i tl h hi hI
  obtain ⟨X, u, d, b, cc, v, cap, I⟩ := hI
  have I : IN6 h0 c X u d b cc v cap h := I
  obtain ⟨ks, hl, k2, e4, e21⟩ := in_f I Sa
  have A := I.2.1
  have M := I.2.2.1
  have G := A.1.1
  have U := A.1.2.2.1
  have T := A.1.2.2.2.2.1
  cases hld : X.ld with
  | false =>
    rw [hld, b2i_0] at e4 e21
    obtain ⟨H1, s1, s2, s3, f7, f9, f3, -⟩ := in_g I Sa CQ.thr (Or.inl rfl)
    have hm : h.thr.mi 283 8 = Int32.ofNat 0 := M.2.2.2.2.2.2 hld |>.1 8
    have g2 := m_99 (i := h.mi sc (i + 1)) (n := 0) (by decide) H1 hm
    rw [f7, e21, may_n, if_neg z_1] at g2
    obtain ⟨J, j7, j9, jm⟩ := in_cm I CQ.thr (Or.inl rfl) (MQw.t (x := 1))
    obtain ⟨tl', e⟩ := lx_16 (tl := tl) hl hi ks s1 s2 k2 s3 j7 (m_5 jm) z_1 (w_98_x0 k2 (m_214n G T e4)) g2 mi_ss
    exact ⟨tl', _, e, J⟩
  | true =>
    rw [hld, b2i_1] at e4 e21
    have nl : ¬ h.mi 200 4 = 0 := by rw [e4]; exact z_1
    obtain ⟨i0, pc, n, q, E, V, Jj, P, -⟩ := in_cur I hld
    have cn : h.mi (b + 13) 0 = Int32.ofNat (n) := V.1.1.2.2.2.2.1
    have bd : n ≤ 80 := by have := V.1.2; omega
    have me : h.mi 283 8 = Int32.ofNat (n) := E.1.2.2.2.2.2.2.2.2.trans V.1.1.2.2.2.2.1
    by_cases r : h.mi sc (i + 1) < 0 ∨ ¬ h.mi sc (i + 1) < h.mi (b + 13) 0
    · obtain ⟨H1, s1, s2, s3, f7, f9, f3, -⟩ := in_g I Sa CQ.thr (Or.inl rfl)
      have g2 := m_99 (i := h.mi sc (i + 1)) (n := n) bd H1 me
      have r2 := r
      rw [cn] at r2
      rw [f7, e21, show h.thr.mi 283 8 = h.mi 283 8 from rfl, me, rng_n (by omega) r2, may_x, if_neg two_0] at g2
      obtain ⟨J, j7, j9, jm⟩ := in_cm I CQ.thr (Or.inl rfl) (MQw.t (x := 2))
      obtain ⟨tl', e⟩ := lx_16 (tl := tl) hl hi ks s1 s2 k2 s3 j7 (m_5 jm) two_0 (w_98_x1 k2 (m_214x G T nl r)) g2 mi_ss
      exact ⟨tl', _, e, J⟩
    · have r0 : ¬ h.mi sc (i + 1) < 0 := fun z => r (Or.inl z)
      have r1 : h.mi sc (i + 1) < h.mi (b + 13) 0 := Classical.byContradiction fun z => r (Or.inr z)
      have r2 := r1
      rw [cn] at r2
      obtain ⟨ei, k, hk, ek⟩ := rng_y (by omega) r0 r2
      have ev : h.mi (b + 14) k = h.mi 283 (688 + k) := by
        exact (E.2.2.2.2.2.2.2 k hk).1.symm
      obtain ⟨vv, hv⟩ : ∃ vv, vv = h.mi 283 (688 + k) := ⟨_, rfl⟩
      have g1 := m_214y (k := k) (by omega) G T nl (by rw [← ek]; exact r1)
      rw [ev, ← hv, ← ek] at g1
      obtain ⟨H1, s1, s2, s3, f7, f9, f3, k90⟩ := in_g I Sa CQ.rf (Or.inr ⟨vv.toInt64, rfl⟩)
      have g2 := m_99 (i := h.mi sc (i + 1)) (n := n) bd H1 me
      have me2 : (h.sl 290 0 vv.toInt64).mi 283 8 = Int32.ofNat (n) := me
      rw [f7, e21, me2, ei, may_y, if_pos rfl, f3, ek, i32_nat (by omega), ← hv, ← ek] at g2
      obtain ⟨J, j7, j9, jm⟩ := in_cm I CQ.rf (Or.inr ⟨vv.toInt64, rfl⟩) (MQw.t (x := 0))
      obtain ⟨tl', e⟩ := lv_16 (tl := tl) hl hi ks s1 s2 k2 s3 j7 (m_5 jm) j9 (w_98 k2 k90 g1) g2 mi_ss sl_ml
      exact ⟨tl', _, e, J⟩
theorem st_17 {h0 : Mm} {c sc len : Nat} (Sa : STA h0 sc len) : STP h0 sc len c 1059 := by
  intro i tl h hi hI
  obtain ⟨X, u, d, b, cc, v, cap, I⟩ := hI
  have I : IN6 h0 c X u d b cc v cap h := I
  obtain ⟨ks, hl, k2, e4, e21⟩ := in_f I Sa
  have A := I.2.1
  have M := I.2.2.1
  have G := A.1.1
  have U := A.1.2.2.1
  have T := A.1.2.2.2.2.1
  cases hld : X.ld with
  | false =>
    rw [hld, b2i_0] at e4 e21
    obtain ⟨H1, s1, s2, s3, f7, f9, f3, -⟩ := in_g I Sa CQ.thr (Or.inl rfl)
    have hm : h.thr.mi 283 8 = Int32.ofNat 0 := M.2.2.2.2.2.2 hld |>.1 8
    have g2 := m_97 (i := h.mi sc (i + 1)) (n := 0) (by decide) H1 hm
    rw [f7, e21, may_n, if_neg z_1] at g2
    obtain ⟨J, j7, j9, jm⟩ := in_cm I CQ.thr (Or.inl rfl) (MQw.t (x := 1))
    obtain ⟨tl', e⟩ := lx_17 (tl := tl) hl hi ks s1 s2 k2 s3 j7 (m_5 jm) z_1 (w_96_x0 k2 (m_213n G T e4)) g2 mi_ss
    exact ⟨tl', _, e, J⟩
  | true =>
    rw [hld, b2i_1] at e4 e21
    have nl : ¬ h.mi 200 4 = 0 := by rw [e4]; exact z_1
    obtain ⟨i0, pc, n, q, E, V, Jj, P, -⟩ := in_cur I hld
    have cn : h.mi (b + 13) 0 = Int32.ofNat (n) := V.1.1.2.2.2.2.1
    have bd : n ≤ 80 := by have := V.1.2; omega
    have me : h.mi 283 8 = Int32.ofNat (n) := E.1.2.2.2.2.2.2.2.2.trans V.1.1.2.2.2.2.1
    by_cases r : h.mi sc (i + 1) < 0 ∨ ¬ h.mi sc (i + 1) < h.mi (b + 13) 0
    · obtain ⟨H1, s1, s2, s3, f7, f9, f3, -⟩ := in_g I Sa CQ.thr (Or.inl rfl)
      have g2 := m_97 (i := h.mi sc (i + 1)) (n := n) bd H1 me
      have r2 := r
      rw [cn] at r2
      rw [f7, e21, show h.thr.mi 283 8 = h.mi 283 8 from rfl, me, rng_n (by omega) r2, may_x, if_neg two_0] at g2
      obtain ⟨J, j7, j9, jm⟩ := in_cm I CQ.thr (Or.inl rfl) (MQw.t (x := 2))
      obtain ⟨tl', e⟩ := lx_17 (tl := tl) hl hi ks s1 s2 k2 s3 j7 (m_5 jm) two_0 (w_96_x1 k2 (m_213x G T nl r)) g2 mi_ss
      exact ⟨tl', _, e, J⟩
    · have r0 : ¬ h.mi sc (i + 1) < 0 := fun z => r (Or.inl z)
      have r1 : h.mi sc (i + 1) < h.mi (b + 13) 0 := Classical.byContradiction fun z => r (Or.inr z)
      have r2 := r1
      rw [cn] at r2
      obtain ⟨ei, k, hk, ek⟩ := rng_y (by omega) r0 r2
      have ev : h.mi (b + 15) k = h.mi 283 (768 + k) := by
        exact (E.2.2.2.2.2.2.2 k hk).2.1.symm
      obtain ⟨vv, hv⟩ : ∃ vv, vv = h.mi 283 (768 + k) := ⟨_, rfl⟩
      have g1 := m_213y (k := k) (by omega) G T nl (by rw [← ek]; exact r1)
      rw [ev, ← hv, ← ek] at g1
      obtain ⟨H1, s1, s2, s3, f7, f9, f3, k90⟩ := in_g I Sa CQ.rf (Or.inr ⟨vv.toInt64, rfl⟩)
      have g2 := m_97 (i := h.mi sc (i + 1)) (n := n) bd H1 me
      have me2 : (h.sl 290 0 vv.toInt64).mi 283 8 = Int32.ofNat (n) := me
      rw [f7, e21, me2, ei, may_y, if_pos rfl, f3, ek, i32_nat (by omega), ← hv, ← ek] at g2
      obtain ⟨J, j7, j9, jm⟩ := in_cm I CQ.rf (Or.inr ⟨vv.toInt64, rfl⟩) (MQw.t (x := 0))
      obtain ⟨tl', e⟩ := lv_17 (tl := tl) hl hi ks s1 s2 k2 s3 j7 (m_5 jm) j9 (w_96 k2 k90 g1) g2 mi_ss sl_ml
      exact ⟨tl', _, e, J⟩
theorem st_18 {h0 : Mm} {c sc len : Nat} (Sa : STA h0 sc len) : STP h0 sc len c 1115 := by
  intro i tl h hi hI
  obtain ⟨X, u, d, b, cc, v, cap, I⟩ := hI
  have I : IN6 h0 c X u d b cc v cap h := I
  obtain ⟨ks, hl, k2, e4, e21⟩ := in_f I Sa
  have A := I.2.1
  have M := I.2.2.1
  have G := A.1.1
  have U := A.1.2.2.1
  have T := A.1.2.2.2.2.1
  cases hld : X.ld with
  | false =>
    rw [hld, b2i_0] at e4 e21
    obtain ⟨H1, s1, s2, s3, f7, f9, f3, -⟩ := in_g I Sa CQ.thr (Or.inl rfl)
    have hm : h.thr.mi 283 8 = Int32.ofNat 0 := M.2.2.2.2.2.2 hld |>.1 8
    have g2 := m_95 (i := h.mi sc (i + 1)) (n := 0) (by decide) H1 hm
    rw [f7, e21, may_n, if_neg z_1] at g2
    obtain ⟨J, j7, j9, jm⟩ := in_cm I CQ.thr (Or.inl rfl) (MQw.t (x := 1))
    obtain ⟨tl', e⟩ := lx_18 (tl := tl) hl hi ks s1 s2 k2 s3 j7 (m_5 jm) z_1 (w_94_x0 k2 (m_212n G T e4)) g2 mi_ss
    exact ⟨tl', _, e, J⟩
  | true =>
    rw [hld, b2i_1] at e4 e21
    have nl : ¬ h.mi 200 4 = 0 := by rw [e4]; exact z_1
    obtain ⟨i0, pc, n, q, E, V, Jj, P, -⟩ := in_cur I hld
    have cn : h.mi (b + 13) 0 = Int32.ofNat (n) := V.1.1.2.2.2.2.1
    have bd : n ≤ 80 := by have := V.1.2; omega
    have me : h.mi 283 8 = Int32.ofNat (n) := E.1.2.2.2.2.2.2.2.2.trans V.1.1.2.2.2.2.1
    by_cases r : h.mi sc (i + 1) < 0 ∨ ¬ h.mi sc (i + 1) < h.mi (b + 13) 0
    · obtain ⟨H1, s1, s2, s3, f7, f9, f3, -⟩ := in_g I Sa CQ.thr (Or.inl rfl)
      have g2 := m_95 (i := h.mi sc (i + 1)) (n := n) bd H1 me
      have r2 := r
      rw [cn] at r2
      rw [f7, e21, show h.thr.mi 283 8 = h.mi 283 8 from rfl, me, rng_n (by omega) r2, may_x, if_neg two_0] at g2
      obtain ⟨J, j7, j9, jm⟩ := in_cm I CQ.thr (Or.inl rfl) (MQw.t (x := 2))
      obtain ⟨tl', e⟩ := lx_18 (tl := tl) hl hi ks s1 s2 k2 s3 j7 (m_5 jm) two_0 (w_94_x1 k2 (m_212x G T nl r)) g2 mi_ss
      exact ⟨tl', _, e, J⟩
    · have r0 : ¬ h.mi sc (i + 1) < 0 := fun z => r (Or.inl z)
      have r1 : h.mi sc (i + 1) < h.mi (b + 13) 0 := Classical.byContradiction fun z => r (Or.inr z)
      have r2 := r1
      rw [cn] at r2
      obtain ⟨ei, k, hk, ek⟩ := rng_y (by omega) r0 r2
      have ev : exF (rowsAt h b) k = h.mi 283 (848 + k) := by
        exact q_ex E hk
      obtain ⟨vv, hv⟩ : ∃ vv, vv = h.mi 283 (848 + k) := ⟨_, rfl⟩
      have g1 := m_212y (k := k) (by omega) G T nl (by rw [← ek]; exact r1)
      rw [ev, ← hv, ← ek] at g1
      obtain ⟨H1, s1, s2, s3, f7, f9, f3, k90⟩ := in_g I Sa CQ.rf (Or.inr ⟨vv.toInt64, rfl⟩)
      have g2 := m_95 (i := h.mi sc (i + 1)) (n := n) bd H1 me
      have me2 : (h.sl 290 0 vv.toInt64).mi 283 8 = Int32.ofNat (n) := me
      rw [f7, e21, me2, ei, may_y, if_pos rfl, f3, ek, i32_nat (by omega), ← hv, ← ek] at g2
      obtain ⟨J, j7, j9, jm⟩ := in_cm I CQ.rf (Or.inr ⟨vv.toInt64, rfl⟩) (MQw.t (x := 0))
      obtain ⟨tl', e⟩ := lv_18 (tl := tl) hl hi ks s1 s2 k2 s3 j7 (m_5 jm) j9 (w_94 k2 k90 g1) g2 mi_ss sl_ml
      exact ⟨tl', _, e, J⟩
theorem st_19 {h0 : Mm} {c sc len : Nat} (Sa : STA h0 sc len) : STP h0 sc len c 1171 := by
  intro i tl h hi hI
  obtain ⟨X, u, d, b, cc, v, cap, I⟩ := hI
  have I : IN6 h0 c X u d b cc v cap h := I
  obtain ⟨ks, hl, k2, e4, e21⟩ := in_f I Sa
  have A := I.2.1
  have M := I.2.2.1
  have G := A.1.1
  have U := A.1.2.2.1
  have T := A.1.2.2.2.2.1
  cases hld : X.ld with
  | false =>
    rw [hld, b2i_0] at e4 e21
    obtain ⟨H1, s1, s2, s3, f7, f9, f3, -⟩ := in_g I Sa CQ.thr (Or.inl rfl)
    have hm : h.thr.mi 283 8 = Int32.ofNat 0 := M.2.2.2.2.2.2 hld |>.1 8
    have g2 := m_93 (i := h.mi sc (i + 1)) (n := 0) (by decide) H1 hm
    rw [f7, e21, may_n, if_neg z_1] at g2
    obtain ⟨J, j7, j9, jm⟩ := in_cm I CQ.thr (Or.inl rfl) (MQw.t (x := 1))
    obtain ⟨tl', e⟩ := lx_19 (tl := tl) hl hi ks s1 s2 k2 s3 j7 (m_5 jm) z_1 (w_92_x0 k2 (m_211n G T e4)) g2 mi_ss
    exact ⟨tl', _, e, J⟩
  | true =>
    rw [hld, b2i_1] at e4 e21
    have nl : ¬ h.mi 200 4 = 0 := by rw [e4]; exact z_1
    obtain ⟨i0, pc, n, q, E, V, Jj, P, -⟩ := in_cur I hld
    have cn : h.mi (b + 13) 0 = Int32.ofNat (n) := V.1.1.2.2.2.2.1
    have bd : n ≤ 80 := by have := V.1.2; omega
    have me : h.mi 283 8 = Int32.ofNat (n) := E.1.2.2.2.2.2.2.2.2.trans V.1.1.2.2.2.2.1
    by_cases r : h.mi sc (i + 1) < 0 ∨ ¬ h.mi sc (i + 1) < h.mi (b + 13) 0
    · obtain ⟨H1, s1, s2, s3, f7, f9, f3, -⟩ := in_g I Sa CQ.thr (Or.inl rfl)
      have g2 := m_93 (i := h.mi sc (i + 1)) (n := n) bd H1 me
      have r2 := r
      rw [cn] at r2
      rw [f7, e21, show h.thr.mi 283 8 = h.mi 283 8 from rfl, me, rng_n (by omega) r2, may_x, if_neg two_0] at g2
      obtain ⟨J, j7, j9, jm⟩ := in_cm I CQ.thr (Or.inl rfl) (MQw.t (x := 2))
      obtain ⟨tl', e⟩ := lx_19 (tl := tl) hl hi ks s1 s2 k2 s3 j7 (m_5 jm) two_0 (w_92_x1 k2 (m_211x G T nl r)) g2 mi_ss
      exact ⟨tl', _, e, J⟩
    · have r0 : ¬ h.mi sc (i + 1) < 0 := fun z => r (Or.inl z)
      have r1 : h.mi sc (i + 1) < h.mi (b + 13) 0 := Classical.byContradiction fun z => r (Or.inr z)
      have r2 := r1
      rw [cn] at r2
      obtain ⟨ei, k, hk, ek⟩ := rng_y (by omega) r0 r2
      have ev : h.mi (b + 17) k = h.mi 283 (928 + k) := by
        exact (E.2.2.2.2.2.2.2 k hk).2.2.2.1.symm
      obtain ⟨vv, hv⟩ : ∃ vv, vv = h.mi 283 (928 + k) := ⟨_, rfl⟩
      have g1 := m_211y (k := k) (by omega) G T nl (by rw [← ek]; exact r1)
      rw [ev, ← hv, ← ek] at g1
      obtain ⟨H1, s1, s2, s3, f7, f9, f3, k90⟩ := in_g I Sa CQ.rf (Or.inr ⟨vv.toInt64, rfl⟩)
      have g2 := m_93 (i := h.mi sc (i + 1)) (n := n) bd H1 me
      have me2 : (h.sl 290 0 vv.toInt64).mi 283 8 = Int32.ofNat (n) := me
      rw [f7, e21, me2, ei, may_y, if_pos rfl, f3, ek, i32_nat (by omega), ← hv, ← ek] at g2
      obtain ⟨J, j7, j9, jm⟩ := in_cm I CQ.rf (Or.inr ⟨vv.toInt64, rfl⟩) (MQw.t (x := 0))
      obtain ⟨tl', e⟩ := lv_19 (tl := tl) hl hi ks s1 s2 k2 s3 j7 (m_5 jm) j9 (w_92 k2 k90 g1) g2 mi_ss sl_ml
      exact ⟨tl', _, e, J⟩
theorem st_20 {h0 : Mm} {c sc len : Nat} (Sa : STA h0 sc len) : STP h0 sc len c 1227 := by
  intro i tl h hi hI
  obtain ⟨X, u, d, b, cc, v, cap, I⟩ := hI
  have I : IN6 h0 c X u d b cc v cap h := I
  obtain ⟨ks, hl, k2, e4, e21⟩ := in_f I Sa
  have A := I.2.1
  have M := I.2.2.1
  have G := A.1.1
  have U := A.1.2.2.1
  have T := A.1.2.2.2.2.1
  cases hld : X.ld with
  | false =>
    rw [hld, b2i_0] at e4 e21
    obtain ⟨H1, s1, s2, s3, f7, f9, f3, -⟩ := in_g I Sa CQ.thr (Or.inl rfl)
    have hm : h.thr.mi 283 8 = Int32.ofNat 0 := M.2.2.2.2.2.2 hld |>.1 8
    have g2 := m_91 (i := h.mi sc (i + 1)) (n := 0) (by decide) H1 hm
    rw [f7, e21, may_n, if_neg z_1] at g2
    obtain ⟨J, j7, j9, jm⟩ := in_cm I CQ.thr (Or.inl rfl) (MQw.t (x := 1))
    obtain ⟨tl', e⟩ := lx_20 (tl := tl) hl hi ks s1 s2 k2 s3 j7 (m_5 jm) z_1 (w_90_x0 k2 (m_209n G T e4)) g2 mi_ss
    exact ⟨tl', _, e, J⟩
  | true =>
    rw [hld, b2i_1] at e4 e21
    have nl : ¬ h.mi 200 4 = 0 := by rw [e4]; exact z_1
    obtain ⟨i0, pc, n, q, E, V, Jj, P, -⟩ := in_cur I hld
    have cn : h.mi (b + 13) 0 = Int32.ofNat (n) := V.1.1.2.2.2.2.1
    have bd : n ≤ 80 := by have := V.1.2; omega
    have me : h.mi 283 8 = Int32.ofNat (n) := E.1.2.2.2.2.2.2.2.2.trans V.1.1.2.2.2.2.1
    by_cases r : h.mi sc (i + 1) < 0 ∨ ¬ h.mi sc (i + 1) < h.mi (b + 13) 0
    · obtain ⟨H1, s1, s2, s3, f7, f9, f3, -⟩ := in_g I Sa CQ.thr (Or.inl rfl)
      have g2 := m_91 (i := h.mi sc (i + 1)) (n := n) bd H1 me
      have r2 := r
      rw [cn] at r2
      rw [f7, e21, show h.thr.mi 283 8 = h.mi 283 8 from rfl, me, rng_n (by omega) r2, may_x, if_neg two_0] at g2
      obtain ⟨J, j7, j9, jm⟩ := in_cm I CQ.thr (Or.inl rfl) (MQw.t (x := 2))
      obtain ⟨tl', e⟩ := lx_20 (tl := tl) hl hi ks s1 s2 k2 s3 j7 (m_5 jm) two_0 (w_90_x1 k2 (m_209x G T nl r)) g2 mi_ss
      exact ⟨tl', _, e, J⟩
    · have r0 : ¬ h.mi sc (i + 1) < 0 := fun z => r (Or.inl z)
      have r1 : h.mi sc (i + 1) < h.mi (b + 13) 0 := Classical.byContradiction fun z => r (Or.inr z)
      have r2 := r1
      rw [cn] at r2
      obtain ⟨ei, k, hk, ek⟩ := rng_y (by omega) r0 r2
      have ev : h.mi (b + 18) k = h.mi 283 (1088 + k) := by
        exact (E.2.2.2.2.2.2.2 k hk).2.2.2.2.2.symm
      obtain ⟨vv, hv⟩ : ∃ vv, vv = h.mi 283 (1088 + k) := ⟨_, rfl⟩
      have g1 := m_209y (k := k) (by omega) G T nl (by rw [← ek]; exact r1)
      rw [ev, ← hv, ← ek] at g1
      obtain ⟨H1, s1, s2, s3, f7, f9, f3, k90⟩ := in_g I Sa CQ.rf (Or.inr ⟨vv.toInt64, rfl⟩)
      have g2 := m_91 (i := h.mi sc (i + 1)) (n := n) bd H1 me
      have me2 : (h.sl 290 0 vv.toInt64).mi 283 8 = Int32.ofNat (n) := me
      rw [f7, e21, me2, ei, may_y, if_pos rfl, f3, ek, i32_nat (by omega), ← hv, ← ek] at g2
      obtain ⟨J, j7, j9, jm⟩ := in_cm I CQ.rf (Or.inr ⟨vv.toInt64, rfl⟩) (MQw.t (x := 0))
      obtain ⟨tl', e⟩ := lv_20 (tl := tl) hl hi ks s1 s2 k2 s3 j7 (m_5 jm) j9 (w_90 k2 k90 g1) g2 mi_ss sl_ml
      exact ⟨tl', _, e, J⟩
theorem st_32 {h0 : Mm} {c sc len : Nat} (Sa : STA h0 sc len) : STP h0 sc len c 1636 := by
  intro i tl h hi hI
  obtain ⟨X, u, d, b, cc, v, cap, I⟩ := hI
  have I : IN6 h0 c X u d b cc v cap h := I
  obtain ⟨ks, hl, k2, e4, e21⟩ := in_f I Sa
  have A := I.2.1
  have M := I.2.2.1
  have G := A.1.1
  have U := A.1.2.2.1
  have T := A.1.2.2.2.2.1
  cases hld : X.ld with
  | false =>
    rw [hld, b2i_0] at e4 e21
    obtain ⟨H1, s1, s2, s3, f7, f9, f3, -⟩ := in_g I Sa CQ.thr (Or.inl rfl)
    have hm : h.thr.mi 279 7 = Int32.ofNat 0 := M.2.2.2.2.2.2 hld |>.2 7
    have g2 := m_67 (i := h.mi sc (i + 1)) (n := 0) (by decide) H1 hm
    rw [f7, e21, may_n, if_neg z_1] at g2
    obtain ⟨J, j7, j9, jm⟩ := in_cm I CQ.thr (Or.inl rfl) (MQw.t (x := 1))
    obtain ⟨tl', e⟩ := lx_32 (tl := tl) hl hi ks s1 s2 k2 s3 j7 (m_5 jm) z_1 (w_66_x0 k2 (m_199n G U e4)) g2 mi_ss
    exact ⟨tl', _, e, J⟩
  | true =>
    rw [hld, b2i_1] at e4 e21
    have nl : ¬ h.mi 200 4 = 0 := by rw [e4]; exact z_1
    obtain ⟨i0, pc, n, q, E, V, Jj, P, -⟩ := in_cur I hld
    have cn : h.mi u 11 = Int32.ofNat (X.ns) := P.2.1.2.2.1
    have bd : X.ns ≤ 4 := by have := P.2.1; omega
    have me : h.mi 279 7 = Int32.ofNat (X.ns) := P.2.1.2.2.2.1
    by_cases r : h.mi sc (i + 1) < 0 ∨ ¬ h.mi sc (i + 1) < h.mi u 11
    · obtain ⟨H1, s1, s2, s3, f7, f9, f3, -⟩ := in_g I Sa CQ.thr (Or.inl rfl)
      have g2 := m_67 (i := h.mi sc (i + 1)) (n := X.ns) bd H1 me
      have r2 := r
      rw [cn] at r2
      rw [f7, e21, show h.thr.mi 279 7 = h.mi 279 7 from rfl, me, rng_n (by omega) r2, may_x, if_neg two_0] at g2
      obtain ⟨J, j7, j9, jm⟩ := in_cm I CQ.thr (Or.inl rfl) (MQw.t (x := 2))
      obtain ⟨tl', e⟩ := lx_32 (tl := tl) hl hi ks s1 s2 k2 s3 j7 (m_5 jm) two_0 (w_66_x1 k2 (m_199x G U nl r)) g2 mi_ss
      exact ⟨tl', _, e, J⟩
    · have r0 : ¬ h.mi sc (i + 1) < 0 := fun z => r (Or.inl z)
      have r1 : h.mi sc (i + 1) < h.mi u 11 := Classical.byContradiction fun z => r (Or.inr z)
      have r2 := r1
      rw [cn] at r2
      obtain ⟨ei, k, hk, ek⟩ := rng_y (by omega) r0 r2
      have ev : h.mi (b + 4) k = h.mi 283 (18 + k) := by
        exact (E.2.2.2.1 k (by omega)).1.symm
      obtain ⟨vv, hv⟩ : ∃ vv, vv = h.mi 283 (18 + k) := ⟨_, rfl⟩
      have g1 := m_199y (k := k) (by omega) G U T nl (by rw [← ek]; exact r1)
      rw [ev, ← hv, ← ek] at g1
      obtain ⟨H1, s1, s2, s3, f7, f9, f3, k90⟩ := in_g I Sa CQ.rf (Or.inr ⟨vv.toInt64, rfl⟩)
      have g2 := m_67 (i := h.mi sc (i + 1)) (n := X.ns) bd H1 me
      have me2 : (h.sl 290 0 vv.toInt64).mi 279 7 = Int32.ofNat (X.ns) := me
      rw [f7, e21, me2, ei, may_y, if_pos rfl, f3, ek, i32_nat (by omega), ← hv, ← ek] at g2
      obtain ⟨J, j7, j9, jm⟩ := in_cm I CQ.rf (Or.inr ⟨vv.toInt64, rfl⟩) (MQw.t (x := 0))
      obtain ⟨tl', e⟩ := lv_32 (tl := tl) hl hi ks s1 s2 k2 s3 j7 (m_5 jm) j9 (w_66 k2 k90 g1) g2 mi_ss sl_ml
      exact ⟨tl', _, e, J⟩
theorem st_33 {h0 : Mm} {c sc len : Nat} (Sa : STA h0 sc len) : STP h0 sc len c 1692 := by
  intro i tl h hi hI
  obtain ⟨X, u, d, b, cc, v, cap, I⟩ := hI
  have I : IN6 h0 c X u d b cc v cap h := I
  obtain ⟨ks, hl, k2, e4, e21⟩ := in_f I Sa
  have A := I.2.1
  have M := I.2.2.1
  have G := A.1.1
  have U := A.1.2.2.1
  have T := A.1.2.2.2.2.1
  cases hld : X.ld with
  | false =>
    rw [hld, b2i_0] at e4 e21
    obtain ⟨H1, s1, s2, s3, f7, f9, f3, -⟩ := in_g I Sa CQ.thr (Or.inl rfl)
    have hm : h.thr.mi 279 7 = Int32.ofNat 0 := M.2.2.2.2.2.2 hld |>.2 7
    have g2 := m_65 (i := h.mi sc (i + 1)) (n := 0) (by decide) H1 hm
    rw [f7, e21, may_n, if_neg z_1] at g2
    obtain ⟨J, j7, j9, jm⟩ := in_cm I CQ.thr (Or.inl rfl) (MQw.t (x := 1))
    obtain ⟨tl', e⟩ := lx_33 (tl := tl) hl hi ks s1 s2 k2 s3 j7 (m_5 jm) z_1 (w_64_x0 k2 (m_198n G U e4)) g2 mi_ss
    exact ⟨tl', _, e, J⟩
  | true =>
    rw [hld, b2i_1] at e4 e21
    have nl : ¬ h.mi 200 4 = 0 := by rw [e4]; exact z_1
    obtain ⟨i0, pc, n, q, E, V, Jj, P, -⟩ := in_cur I hld
    have cn : h.mi u 11 = Int32.ofNat (X.ns) := P.2.1.2.2.1
    have bd : X.ns ≤ 4 := by have := P.2.1; omega
    have me : h.mi 279 7 = Int32.ofNat (X.ns) := P.2.1.2.2.2.1
    by_cases r : h.mi sc (i + 1) < 0 ∨ ¬ h.mi sc (i + 1) < h.mi u 11
    · obtain ⟨H1, s1, s2, s3, f7, f9, f3, -⟩ := in_g I Sa CQ.thr (Or.inl rfl)
      have g2 := m_65 (i := h.mi sc (i + 1)) (n := X.ns) bd H1 me
      have r2 := r
      rw [cn] at r2
      rw [f7, e21, show h.thr.mi 279 7 = h.mi 279 7 from rfl, me, rng_n (by omega) r2, may_x, if_neg two_0] at g2
      obtain ⟨J, j7, j9, jm⟩ := in_cm I CQ.thr (Or.inl rfl) (MQw.t (x := 2))
      obtain ⟨tl', e⟩ := lx_33 (tl := tl) hl hi ks s1 s2 k2 s3 j7 (m_5 jm) two_0 (w_64_x1 k2 (m_198x G U nl r)) g2 mi_ss
      exact ⟨tl', _, e, J⟩
    · have r0 : ¬ h.mi sc (i + 1) < 0 := fun z => r (Or.inl z)
      have r1 : h.mi sc (i + 1) < h.mi u 11 := Classical.byContradiction fun z => r (Or.inr z)
      have r2 := r1
      rw [cn] at r2
      obtain ⟨ei, k, hk, ek⟩ := rng_y (by omega) r0 r2
      have ev : h.mi (b + 5) k = h.mi 283 (22 + k) := by
        exact (E.2.2.2.1 k (by omega)).2.symm
      obtain ⟨vv, hv⟩ : ∃ vv, vv = h.mi 283 (22 + k) := ⟨_, rfl⟩
      have g1 := m_198y (k := k) (by omega) G U T nl (by rw [← ek]; exact r1)
      rw [ev, ← hv, ← ek] at g1
      obtain ⟨H1, s1, s2, s3, f7, f9, f3, k90⟩ := in_g I Sa CQ.rf (Or.inr ⟨vv.toInt64, rfl⟩)
      have g2 := m_65 (i := h.mi sc (i + 1)) (n := X.ns) bd H1 me
      have me2 : (h.sl 290 0 vv.toInt64).mi 279 7 = Int32.ofNat (X.ns) := me
      rw [f7, e21, me2, ei, may_y, if_pos rfl, f3, ek, i32_nat (by omega), ← hv, ← ek] at g2
      obtain ⟨J, j7, j9, jm⟩ := in_cm I CQ.rf (Or.inr ⟨vv.toInt64, rfl⟩) (MQw.t (x := 0))
      obtain ⟨tl', e⟩ := lv_33 (tl := tl) hl hi ks s1 s2 k2 s3 j7 (m_5 jm) j9 (w_64 k2 k90 g1) g2 mi_ss sl_ml
      exact ⟨tl', _, e, J⟩
theorem st_34 {h0 : Mm} {c sc len : Nat} (Sa : STA h0 sc len) : STP h0 sc len c 1748 := by
  intro i tl h hi hI
  obtain ⟨X, u, d, b, cc, v, cap, I⟩ := hI
  have I : IN6 h0 c X u d b cc v cap h := I
  obtain ⟨ks, hl, k2, e4, e21⟩ := in_f I Sa
  have A := I.2.1
  have M := I.2.2.1
  have G := A.1.1
  have U := A.1.2.2.1
  have T := A.1.2.2.2.2.1
  cases hld : X.ld with
  | false =>
    rw [hld, b2i_0] at e4 e21
    obtain ⟨H1, s1, s2, s3, f7, f9, f3, -⟩ := in_g I Sa CQ.thr (Or.inl rfl)
    have hm : h.thr.mi 279 7 = Int32.ofNat 0 := M.2.2.2.2.2.2 hld |>.2 7
    have g2 := m_63 (i := h.mi sc (i + 1)) (n := 0) (by decide) H1 hm
    rw [f7, e21, may_n, if_neg z_1] at g2
    obtain ⟨J, j7, j9, jm⟩ := in_cm I CQ.thr (Or.inl rfl) (MQw.t (x := 1))
    obtain ⟨tl', e⟩ := lx_34 (tl := tl) hl hi ks s1 s2 k2 s3 j7 (m_5 jm) z_1 (w_62_x0 k2 (m_197n G U e4)) g2 mi_ss
    exact ⟨tl', _, e, J⟩
  | true =>
    rw [hld, b2i_1] at e4 e21
    have nl : ¬ h.mi 200 4 = 0 := by rw [e4]; exact z_1
    obtain ⟨i0, pc, n, q, E, V, Jj, P, -⟩ := in_cur I hld
    have cn : h.mi u 11 = Int32.ofNat (X.ns) := P.2.1.2.2.1
    have bd : X.ns ≤ 4 := by have := P.2.1; omega
    have me : h.mi 279 7 = Int32.ofNat (X.ns) := P.2.1.2.2.2.1
    by_cases r : h.mi sc (i + 1) < 0 ∨ ¬ h.mi sc (i + 1) < h.mi u 11
    · obtain ⟨H1, s1, s2, s3, f7, f9, f3, -⟩ := in_g I Sa CQ.thr (Or.inl rfl)
      have g2 := m_63 (i := h.mi sc (i + 1)) (n := X.ns) bd H1 me
      have r2 := r
      rw [cn] at r2
      rw [f7, e21, show h.thr.mi 279 7 = h.mi 279 7 from rfl, me, rng_n (by omega) r2, may_x, if_neg two_0] at g2
      obtain ⟨J, j7, j9, jm⟩ := in_cm I CQ.thr (Or.inl rfl) (MQw.t (x := 2))
      obtain ⟨tl', e⟩ := lx_34 (tl := tl) hl hi ks s1 s2 k2 s3 j7 (m_5 jm) two_0 (w_62_x1 k2 (m_197x G U nl r)) g2 mi_ss
      exact ⟨tl', _, e, J⟩
    · have r0 : ¬ h.mi sc (i + 1) < 0 := fun z => r (Or.inl z)
      have r1 : h.mi sc (i + 1) < h.mi u 11 := Classical.byContradiction fun z => r (Or.inr z)
      have r2 := r1
      rw [cn] at r2
      obtain ⟨ei, k, hk, ek⟩ := rng_y (by omega) r0 r2
      have ev : h.mi (b + 3) k = h.mi 283 (14 + k) := by
        exact (E.2.2.1 k hk).2.symm
      obtain ⟨vv, hv⟩ : ∃ vv, vv = h.mi 283 (14 + k) := ⟨_, rfl⟩
      have g1 := m_197y (k := k) (by omega) G U T nl (by rw [← ek]; exact r1)
      rw [ev, ← hv, ← ek] at g1
      obtain ⟨H1, s1, s2, s3, f7, f9, f3, k90⟩ := in_g I Sa CQ.rf (Or.inr ⟨vv.toInt64, rfl⟩)
      have g2 := m_63 (i := h.mi sc (i + 1)) (n := X.ns) bd H1 me
      have me2 : (h.sl 290 0 vv.toInt64).mi 279 7 = Int32.ofNat (X.ns) := me
      rw [f7, e21, me2, ei, may_y, if_pos rfl, f3, ek, i32_nat (by omega), ← hv, ← ek] at g2
      obtain ⟨J, j7, j9, jm⟩ := in_cm I CQ.rf (Or.inr ⟨vv.toInt64, rfl⟩) (MQw.t (x := 0))
      obtain ⟨tl', e⟩ := lv_34 (tl := tl) hl hi ks s1 s2 k2 s3 j7 (m_5 jm) j9 (w_62 k2 k90 g1) g2 mi_ss sl_ml
      exact ⟨tl', _, e, J⟩
theorem st_35 {h0 : Mm} {c sc len : Nat} (Sa : STA h0 sc len) : STP h0 sc len c 1804 := by
  intro i tl h hi hI
  obtain ⟨X, u, d, b, cc, v, cap, I⟩ := hI
  have I : IN6 h0 c X u d b cc v cap h := I
  obtain ⟨ks, hl, k2, e4, e21⟩ := in_f I Sa
  have A := I.2.1
  have M := I.2.2.1
  have G := A.1.1
  have U := A.1.2.2.1
  have T := A.1.2.2.2.2.1
  cases hld : X.ld with
  | false =>
    rw [hld, b2i_0] at e4 e21
    obtain ⟨H1, s1, s2, s3, f7, f9, f3, -⟩ := in_g I Sa CQ.thr (Or.inl rfl)
    have hm : h.thr.mi 279 7 = Int32.ofNat 0 := M.2.2.2.2.2.2 hld |>.2 7
    have g2 := m_61 (i := h.mi sc (i + 1)) (n := 0) (by decide) H1 hm
    rw [f7, e21, may_n, if_neg z_1] at g2
    obtain ⟨J, j7, j9, jm⟩ := in_cm I CQ.thr (Or.inl rfl) (MQw.t (x := 1))
    obtain ⟨tl', e⟩ := lx_35 (tl := tl) hl hi ks s1 s2 k2 s3 j7 (m_5 jm) z_1 (w_60_x0 k2 (m_195n G U e4)) g2 mi_ss
    exact ⟨tl', _, e, J⟩
  | true =>
    rw [hld, b2i_1] at e4 e21
    have nl : ¬ h.mi 200 4 = 0 := by rw [e4]; exact z_1
    obtain ⟨i0, pc, n, q, E, V, Jj, P, -⟩ := in_cur I hld
    have cn : h.mi u 11 = Int32.ofNat (X.ns) := P.2.1.2.2.1
    have bd : X.ns ≤ 4 := by have := P.2.1; omega
    have me : h.mi 279 7 = Int32.ofNat (X.ns) := P.2.1.2.2.2.1
    by_cases r : h.mi sc (i + 1) < 0 ∨ ¬ h.mi sc (i + 1) < h.mi u 11
    · obtain ⟨H1, s1, s2, s3, f7, f9, f3, -⟩ := in_g I Sa CQ.thr (Or.inl rfl)
      have g2 := m_61 (i := h.mi sc (i + 1)) (n := X.ns) bd H1 me
      have r2 := r
      rw [cn] at r2
      rw [f7, e21, show h.thr.mi 279 7 = h.mi 279 7 from rfl, me, rng_n (by omega) r2, may_x, if_neg two_0] at g2
      obtain ⟨J, j7, j9, jm⟩ := in_cm I CQ.thr (Or.inl rfl) (MQw.t (x := 2))
      obtain ⟨tl', e⟩ := lx_35 (tl := tl) hl hi ks s1 s2 k2 s3 j7 (m_5 jm) two_0 (w_60_x1 k2 (m_195x G U nl r)) g2 mi_ss
      exact ⟨tl', _, e, J⟩
    · have r0 : ¬ h.mi sc (i + 1) < 0 := fun z => r (Or.inl z)
      have r1 : h.mi sc (i + 1) < h.mi u 11 := Classical.byContradiction fun z => r (Or.inr z)
      have r2 := r1
      rw [cn] at r2
      obtain ⟨ei, k, hk, ek⟩ := rng_y (by omega) r0 r2
      have ev : h.mi (b + 2) k = h.mi 283 (10 + k) := by
        exact (E.2.2.1 k hk).1.symm
      obtain ⟨vv, hv⟩ : ∃ vv, vv = h.mi 283 (10 + k) := ⟨_, rfl⟩
      have g1 := m_195y (k := k) (by omega) G U T nl (by rw [← ek]; exact r1)
      rw [ev, ← hv, ← ek] at g1
      obtain ⟨H1, s1, s2, s3, f7, f9, f3, k90⟩ := in_g I Sa CQ.rf (Or.inr ⟨vv.toInt64, rfl⟩)
      have g2 := m_61 (i := h.mi sc (i + 1)) (n := X.ns) bd H1 me
      have me2 : (h.sl 290 0 vv.toInt64).mi 279 7 = Int32.ofNat (X.ns) := me
      rw [f7, e21, me2, ei, may_y, if_pos rfl, f3, ek, i32_nat (by omega), ← hv, ← ek] at g2
      obtain ⟨J, j7, j9, jm⟩ := in_cm I CQ.rf (Or.inr ⟨vv.toInt64, rfl⟩) (MQw.t (x := 0))
      obtain ⟨tl', e⟩ := lv_35 (tl := tl) hl hi ks s1 s2 k2 s3 j7 (m_5 jm) j9 (w_60 k2 k90 g1) g2 mi_ss sl_ml
      exact ⟨tl', _, e, J⟩
theorem st_26 {h0 : Mm} {c sc len : Nat} (Sa : STA h0 sc len) : STP h0 sc len c 1434 := by
  intro i tl h hi hI
  obtain ⟨X, u, d, b, cc, v, cap, I⟩ := hI
  have I : IN6 h0 c X u d b cc v cap h := I
  obtain ⟨ks, hl, k2, e4, e21⟩ := in_f I Sa
  have A := I.2.1
  have M := I.2.2.1
  have G := A.1.1
  have U := A.1.2.2.1
  have T := A.1.2.2.2.2.1
  cases hld : X.ld with
  | false =>
    rw [hld, b2i_0] at e4 e21
    obtain ⟨H1, s1, s2, s3, f7, f9, f3, -⟩ := in_g I Sa CQ.thr (Or.inl rfl)
    have hm : h.thr.mi 283 7 = Int32.ofNat 0 := M.2.2.2.2.2.2 hld |>.1 7
    have g2 := m_79 (i := h.mi sc (i + 1)) (n := 0) (by decide) H1 hm
    rw [f7, e21, may_n, if_neg z_1] at g2
    obtain ⟨J, j7, j9, jm⟩ := in_cm I CQ.thr (Or.inl rfl) (MQw.t (x := 1))
    obtain ⟨tl', e⟩ := lx_26 (tl := tl) hl hi ks s1 s2 k2 s3 j7 (m_5 jm) z_1 (w_78_x0 k2 (m_205n G T e4)) g2 mi_ss
    exact ⟨tl', _, e, J⟩
  | true =>
    rw [hld, b2i_1] at e4 e21
    have nl : ¬ h.mi 200 4 = 0 := by rw [e4]; exact z_1
    obtain ⟨i0, pc, n, q, E, V, Jj, P, -⟩ := in_cur I hld
    have cn : h.mi b 5 = Int32.ofNat (pc) := V.1.1.2.1
    have bd : pc ≤ 10 := by have := V.1.2; omega
    have me : h.mi 283 7 = Int32.ofNat (pc) := E.1.2.2.2.2.2.1.trans V.1.1.2.1
    by_cases r : h.mi sc (i + 1) < 0 ∨ ¬ h.mi sc (i + 1) < h.mi b 5
    · obtain ⟨H1, s1, s2, s3, f7, f9, f3, -⟩ := in_g I Sa CQ.thr (Or.inl rfl)
      have g2 := m_79 (i := h.mi sc (i + 1)) (n := pc) bd H1 me
      have r2 := r
      rw [cn] at r2
      rw [f7, e21, show h.thr.mi 283 7 = h.mi 283 7 from rfl, me, rng_n (by omega) r2, may_x, if_neg two_0] at g2
      obtain ⟨J, j7, j9, jm⟩ := in_cm I CQ.thr (Or.inl rfl) (MQw.t (x := 2))
      obtain ⟨tl', e⟩ := lx_26 (tl := tl) hl hi ks s1 s2 k2 s3 j7 (m_5 jm) two_0 (w_78_x1 k2 (m_205x G T nl r)) g2 mi_ss
      exact ⟨tl', _, e, J⟩
    · have r0 : ¬ h.mi sc (i + 1) < 0 := fun z => r (Or.inl z)
      have r1 : h.mi sc (i + 1) < h.mi b 5 := Classical.byContradiction fun z => r (Or.inr z)
      have r2 := r1
      rw [cn] at r2
      obtain ⟨ei, k, hk, ek⟩ := rng_y (by omega) r0 r2
      have ev : h.mi (b + 1) k = h.mi 283 (38 + k) := by
        exact (E.2.1 k hk).symm
      obtain ⟨vv, hv⟩ : ∃ vv, vv = h.mi 283 (38 + k) := ⟨_, rfl⟩
      have g1 := m_205y (k := k) (by omega) G T nl (by rw [← ek]; exact r1)
      rw [ev, ← hv, ← ek] at g1
      obtain ⟨H1, s1, s2, s3, f7, f9, f3, k90⟩ := in_g I Sa CQ.rf (Or.inr ⟨vv.toInt64, rfl⟩)
      have g2 := m_79 (i := h.mi sc (i + 1)) (n := pc) bd H1 me
      have me2 : (h.sl 290 0 vv.toInt64).mi 283 7 = Int32.ofNat (pc) := me
      rw [f7, e21, me2, ei, may_y, if_pos rfl, f3, ek, i32_nat (by omega), ← hv, ← ek] at g2
      obtain ⟨J, j7, j9, jm⟩ := in_cm I CQ.rf (Or.inr ⟨vv.toInt64, rfl⟩) (MQw.t (x := 0))
      obtain ⟨tl', e⟩ := lv_26 (tl := tl) hl hi ks s1 s2 k2 s3 j7 (m_5 jm) j9 (w_78 k2 k90 g1) g2 mi_ss sl_ml
      exact ⟨tl', _, e, J⟩
