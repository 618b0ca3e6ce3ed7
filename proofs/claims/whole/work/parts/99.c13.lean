-- ===== calls: what-ifs =====
theorem m0_sw {h : Mm} {W : Nat → Int32} {x : Int32} : ((h.si 277 0 x).sw 285 W).mi 277 0 = x := by
  rw [mi_swo (by decide)]
  exact mi_ss
theorem m0_s8 {h : Mm} {W : Nat → Int32} {x : Int32} : ((h.si 277 0 x).sw 288 W).mi 277 0 = x := by
  rw [mi_swo (by decide)]
  exact mi_ss
theorem st_39 {h0 : Mm} {c sc len : Nat} (Sa : STA h0 sc len) (hc : c ≤ 600) : STP h0 sc len c 2056 := by
  intro i tl h hi hI
  obtain ⟨X, u, d, b, cc, v, cap, I⟩ := hI
  have I : IN6 h0 c X u d b cc v cap h := I
  obtain ⟨ks, hl, k2, e4, e21⟩ := in_f I Sa
  have A := I.2.1
  have M := I.2.2.1
  have G := A.1.1
  have U := A.1.2.2.1
  have T := A.1.2.2.2.2.1
  cases hld : X.ld with
  | false =>
    rw [hld, b2i_0] at e4 e21
    obtain ⟨H1, s1, s2, s3, f7, f9, f3, -⟩ := in_g I Sa CQ.thr (Or.inl rfl)
    have g2 := m_53n (i := h.mi sc (i + 1)) H1 (by rw [f7]; exact e21)
    obtain ⟨J, j7, j9, jm⟩ := in_cm I CQ.thr (Or.inl rfl) (MQw.t (x := 1))
    obtain ⟨tl', e⟩ := lx_39 (tl := tl) hl hi ks s1 s2 k2 s3 j7 (m_5 jm) z_1 (w_52_x0 k2 (m_190n G e4)) g2 mi_ss
    exact ⟨tl', _, e, J⟩
  | true =>
    rw [hld, b2i_1] at e4 e21
    have nl : ¬ h.mi 200 4 = 0 := by rw [e4]; exact z_1
    obtain ⟨i0, pc, n, q, E, V, Jj, P, TM⟩ := in_cur I hld
    have VN := V.1.2
    have PN := P.2.1
    by_cases r : h.mi sc (i + 1) < 1 ∨ ¬ h.mi sc (i + 1) ≤ 100
    · skip
      obtain ⟨H1, s1, s2, s3, f7, f9, f3, -⟩ := in_g I Sa CQ.thr (Or.inl rfl)
      have g2 := m_53x (i := h.mi sc (i + 1)) H1 (by rw [f7, e21]; exact z_1) (rg1_n (n := 100) (by decide) r)
      obtain ⟨J, j7, j9, jm⟩ := in_cm I CQ.thr (Or.inl rfl) (MQw.t (x := 2))
      obtain ⟨tl', e⟩ := lx_39 (tl := tl) hl hi ks s1 s2 k2 s3 j7 (m_5 jm) two_0 (w_52_x2 k2 (m_190x G nl r)) g2 mi_ss
      exact ⟨tl', _, e, J⟩
    · skip
      have ea0 := rg1_y (n := 100) (i := h.mi sc (i + 1)) (x := 100) (by decide) (fun z => r (Or.inl z)) (Classical.byContradiction fun z => r (Or.inr z))
      obtain ⟨ei, t, t1, t2, et⟩ := ea0
      have Tc := A.1.2.2.2.2.2.1
      have hbc := st_dis T Tc A.2.1.2.2.1
      have hub : u + 7 ≤ b := by
        have z := A.2.1.1.1
        have z2 := A.1.2.1
        omega
      have huc : u + 7 ≤ cc := by
        have z := A.2.1.2.1.1
        have z2 := A.1.2.1
        omega
      have hcc : cc + 19 ≤ 273 ∨ 291 ≤ cc := by
        have z := A.2.1.2.1.1
        omega
      have n13 : rowsAt h b 13 0 = Int32.ofNat n := V.1.1.2.2.2.2.1
      have n7 : h.mi (b + 7) 0 = Int32.ofNat X.cu.1 := V.1.1.2.2.1
      have Z : RS X.ns X.du X.cu.1 X.cu.2.1 (rowsAt h b) (h.mi 283) := ⟨i0, pc, n, q, E, V, Jj⟩
      have ht : X.cu.2.1 + t ≤ 1000000 := by omega
      have hD : ∀ o, o < 7 → h.mi (u + o) = rowsAt h u o := fun _ _ => rfl
      have m8 : h.mi 283 8 = Int32.ofNat n := E.1.2.2.2.2.2.2.2.2.trans n13
      have a1 : ¬ Int32.ofNat t < 1 := by rw [← et]; exact fun z => r (Or.inl z)
      have a2 : Int32.ofNat t ≤ 100 := by rw [← et]; exact Classical.byContradiction fun z => r (Or.inr z)
      rw [et] at ei
      have Zc := cp_rs (Q := rowsAt h cc) (W := h.mi 285) Z n13 (by omega)
      have c13 := cp_13 (m := X.cu.1) (Q := rowsAt h cc) n13
      have g1 := m_190y (i := Int32.ofNat t) (n := X.cu.1) (m := n) (by omega) (by omega) hbc G T Tc nl a1 a2 n7 n13 (s_268 P Zc ht huc Tc U hD)
      obtain ⟨vv, hv⟩ : ∃ vv, vv = (it2 (tiC (rowsAt h u)) t (cpR X.cu.1 n (rowsAt h b) (rowsAt h cc))) 13 0 - h.mi (b + 13) 0 := ⟨_, rfl⟩
      rw [← hv, ← et] at g1
      obtain ⟨H1, s1, s2, s3, f7, f9, f3, k90⟩ := in_g I Sa (CQ.sb (Q := (it2 (tiC (rowsAt h u)) t (cpR X.cu.1 n (rowsAt h b) (rowsAt h cc)))) hcc) (Or.inr ⟨vv.toInt64, rfl⟩)
      have nl1 : ¬ ((h.sb cc (it2 (tiC (rowsAt h u)) t (cpR X.cu.1 n (rowsAt h b) (rowsAt h cc)))).sl 290 0 vv.toInt64).mi 277 21 = 0 := by rw [f7, e21]; exact z_1
      obtain ⟨h1', hh1⟩ : ∃ h1', h1' = (h.sb cc (it2 (tiC (rowsAt h u)) t (cpR X.cu.1 n (rowsAt h b) (rowsAt h cc)))).sl 290 0 vv.toInt64 := ⟨_, rfl⟩
      rw [← hh1] at H1 s1 s2 s3 f7 f9 f3 nl1
      have H2 : MO (h1'.si 277 0 0) := H1
      have p9 : (h1'.si 277 0 0).mi 279 = h.mi 279 := (mi_sa (by decide)).trans f9
      have Z2 : RS X.ns X.du X.cu.1 X.cu.2.1 (rowsAt h b) (h1'.mi 283) := by rw [f3]; exact Z
      have m8' : h1'.mi 283 8 = Int32.ofNat n := by rw [f3]; exact m8
      have Zm := cp_rs (Q := rowsAt h cc) (W := h1'.mi 285) Z2 n13 (by omega)
      have g2 := m_53y (i := Int32.ofNat t) H1 nl1 ei (s_176 P Zm ht H2 (by decide) (mk_285 H2) p9)
      have wv := wi_v P Zm ht c13 (by omega)
      have ev : it (tiM (h.mi 279)) t (upto 1168 (h1'.mi 283) (h1'.mi 285)) 8 - h1'.mi 283 8 = vv := by
        rw [hv, wv.2.2.1, wv.2.1, m8', show h.mi (b + 13) 0 = Int32.ofNat n from n13]
      rw [ev, ← et] at g2
      subst hh1
      obtain ⟨J, j7, j9, jm⟩ := in_cm I (CQ.sb hcc) (Or.inr ⟨vv.toInt64, rfl⟩) (MQw.tr (MQw.t (x := 0)) (MQw.w (Or.inl rfl)))
      obtain ⟨tl', e⟩ := lv_39 (tl := tl) hl hi ks s1 s2 k2 s3 j7 (m_5 jm) j9 (w_52 k2 k90 g1) g2 m0_sw sl_ml
      exact ⟨tl', _, e, J⟩
theorem st_40 {h0 : Mm} {c sc len : Nat} (Sa : STA h0 sc len) (hc : c ≤ 600) : STP h0 sc len c 2112 := by
  intro i tl h hi hI
  obtain ⟨X, u, d, b, cc, v, cap, I⟩ := hI
  have I : IN6 h0 c X u d b cc v cap h := I
  obtain ⟨ks, hl, k2, e4, e21⟩ := in_f I Sa
  have A := I.2.1
  have M := I.2.2.1
  have G := A.1.1
  have U := A.1.2.2.1
  have T := A.1.2.2.2.2.1
  cases hld : X.ld with
  | false =>
    rw [hld, b2i_0] at e4 e21
    obtain ⟨H1, s1, s2, s3, f7, f9, f3, -⟩ := in_g I Sa CQ.thr (Or.inl rfl)
    have g2 := m_51n (i := h.mi sc (i + 1)) H1 (by rw [f7]; exact e21)
    obtain ⟨J, j7, j9, jm⟩ := in_cm I CQ.thr (Or.inl rfl) (MQw.t (x := 1))
    obtain ⟨tl', e⟩ := lx_40 (tl := tl) hl hi ks s1 s2 k2 s3 j7 (m_5 jm) z_1 (w_50_x0 k2 (m_189n G e4)) g2 mi_ss
    exact ⟨tl', _, e, J⟩
  | true =>
    rw [hld, b2i_1] at e4 e21
    have nl : ¬ h.mi 200 4 = 0 := by rw [e4]; exact z_1
    obtain ⟨i0, pc, n, q, E, V, Jj, P, TM⟩ := in_cur I hld
    have VN := V.1.2
    have PN := P.2.1
    by_cases r : h.mi sc (i + 1) < 1 ∨ ¬ h.mi sc (i + 1) ≤ 100
    · skip
      obtain ⟨H1, s1, s2, s3, f7, f9, f3, -⟩ := in_g I Sa CQ.thr (Or.inl rfl)
      have g2 := m_51x (i := h.mi sc (i + 1)) H1 (by rw [f7, e21]; exact z_1) (rg1_n (n := 100) (by decide) r)
      obtain ⟨J, j7, j9, jm⟩ := in_cm I CQ.thr (Or.inl rfl) (MQw.t (x := 2))
      obtain ⟨tl', e⟩ := lx_40 (tl := tl) hl hi ks s1 s2 k2 s3 j7 (m_5 jm) two_0 (w_50_x2 k2 (m_189x G nl r)) g2 mi_ss
      exact ⟨tl', _, e, J⟩
    · skip
      have ea0 := rg1_y (n := 100) (i := h.mi sc (i + 1)) (x := 100) (by decide) (fun z => r (Or.inl z)) (Classical.byContradiction fun z => r (Or.inr z))
      obtain ⟨ei, t, t1, t2, et⟩ := ea0
      have Tc := A.1.2.2.2.2.2.1
      have hbc := st_dis T Tc A.2.1.2.2.1
      have hub : u + 7 ≤ b := by
        have z := A.2.1.1.1
        have z2 := A.1.2.1
        omega
      have huc : u + 7 ≤ cc := by
        have z := A.2.1.2.1.1
        have z2 := A.1.2.1
        omega
      have hcc : cc + 19 ≤ 273 ∨ 291 ≤ cc := by
        have z := A.2.1.2.1.1
        omega
      have n13 : rowsAt h b 13 0 = Int32.ofNat n := V.1.1.2.2.2.2.1
      have n7 : h.mi (b + 7) 0 = Int32.ofNat X.cu.1 := V.1.1.2.2.1
      have Z : RS X.ns X.du X.cu.1 X.cu.2.1 (rowsAt h b) (h.mi 283) := ⟨i0, pc, n, q, E, V, Jj⟩
      have ht : X.cu.2.1 + t ≤ 1000000 := by omega
      have hD : ∀ o, o < 7 → h.mi (u + o) = rowsAt h u o := fun _ _ => rfl
      have m8 : h.mi 283 8 = Int32.ofNat n := E.1.2.2.2.2.2.2.2.2.trans n13
      have a1 : ¬ Int32.ofNat t < 1 := by rw [← et]; exact fun z => r (Or.inl z)
      have a2 : Int32.ofNat t ≤ 100 := by rw [← et]; exact Classical.byContradiction fun z => r (Or.inr z)
      rw [et] at ei
      have Zc := cp_rs (Q := rowsAt h cc) (W := h.mi 285) Z n13 (by omega)
      have c13 := cp_13 (m := X.cu.1) (Q := rowsAt h cc) n13
      have wc := wi_v P Zc ht c13 (by omega)
      have g1 := m_189y (i := Int32.ofNat t) (n := X.cu.1) (m := n) (k := wk (rowsAt h u) t (cpR X.cu.1 n (rowsAt h b) (rowsAt h cc))) wc.1.1 wc.1.2 (by omega) hbc G T Tc nl a1 a2 n7 n13 (s_268 P Zc ht huc Tc U hD) wc.2.1
      obtain ⟨vv, hv⟩ : ∃ vv, vv = fl (fun j a => a + exF (it2 (tiC (rowsAt h u)) t (cpR X.cu.1 n (rowsAt h b) (rowsAt h cc))) j) (wk (rowsAt h u) t (cpR X.cu.1 n (rowsAt h b) (rowsAt h cc)) - n) n 0 := ⟨_, rfl⟩
      rw [← hv, ← et] at g1
      obtain ⟨H1, s1, s2, s3, f7, f9, f3, k90⟩ := in_g I Sa (CQ.sb (Q := (it2 (tiC (rowsAt h u)) t (cpR X.cu.1 n (rowsAt h b) (rowsAt h cc)))) hcc) (Or.inr ⟨vv.toInt64, rfl⟩)
      have nl1 : ¬ ((h.sb cc (it2 (tiC (rowsAt h u)) t (cpR X.cu.1 n (rowsAt h b) (rowsAt h cc)))).sl 290 0 vv.toInt64).mi 277 21 = 0 := by rw [f7, e21]; exact z_1
      obtain ⟨h1', hh1⟩ : ∃ h1', h1' = (h.sb cc (it2 (tiC (rowsAt h u)) t (cpR X.cu.1 n (rowsAt h b) (rowsAt h cc)))).sl 290 0 vv.toInt64 := ⟨_, rfl⟩
      rw [← hh1] at H1 s1 s2 s3 f7 f9 f3 nl1
      have H2 : MO (h1'.si 277 0 0) := H1
      have p9 : (h1'.si 277 0 0).mi 279 = h.mi 279 := (mi_sa (by decide)).trans f9
      have Z2 : RS X.ns X.du X.cu.1 X.cu.2.1 (rowsAt h b) (h1'.mi 283) := by rw [f3]; exact Z
      have m8' : h1'.mi 283 8 = Int32.ofNat n := by rw [f3]; exact m8
      have Zm := cp_rs (Q := rowsAt h cc) (W := h1'.mi 285) Z2 n13 (by omega)
      have wv := wi_v P Zm ht c13 (by omega)
      have g2 := m_51y (i := Int32.ofNat t) wv.1.1 wv.1.2 H1 nl1 ei m8' (s_176 P Zm ht H2 (by decide) (mk_285 H2) p9) wv.2.2.1
      rw [← wv.2.2.2.1, ← hv, ← et] at g2
      subst hh1
      obtain ⟨J, j7, j9, jm⟩ := in_cm I (CQ.sb hcc) (Or.inr ⟨vv.toInt64, rfl⟩) (MQw.tr (MQw.t (x := 0)) (MQw.w (Or.inl rfl)))
      obtain ⟨tl', e⟩ := lv_40 (tl := tl) hl hi ks s1 s2 k2 s3 j7 (m_5 jm) j9 (w_50 k2 k90 g1) g2 m0_sw sl_ml
      exact ⟨tl', _, e, J⟩
theorem st_42 {h0 : Mm} {c sc len : Nat} (Sa : STA h0 sc len) (hc : c ≤ 600) : STP h0 sc len c 2236 := by
  intro i tl h hi hI
  obtain ⟨X, u, d, b, cc, v, cap, I⟩ := hI
  have I : IN6 h0 c X u d b cc v cap h := I
  obtain ⟨ks, hl, k2, e4, e21⟩ := in_f I Sa
  have A := I.2.1
  have M := I.2.2.1
  have G := A.1.1
  have U := A.1.2.2.1
  have T := A.1.2.2.2.2.1
  cases hld : X.ld with
  | false =>
    rw [hld, b2i_0] at e4 e21
    obtain ⟨H1, s1, s2, s3, f7, f9, f3, -⟩ := in_g I Sa CQ.thr (Or.inl rfl)
    have g2 := m_47n (t := h.mi sc (i + 1)) H1 (by rw [f7]; exact e21)
    obtain ⟨J, j7, j9, jm⟩ := in_cm I CQ.thr (Or.inl rfl) (MQw.t (x := 1))
    obtain ⟨tl', e⟩ := lx_42 (tl := tl) hl hi ks s1 s2 k2 s3 j7 (m_5 jm) z_1 (w_46_x0 k2 (m_185n G e4)) g2 mi_ss
    exact ⟨tl', _, e, J⟩
  | true =>
    rw [hld, b2i_1] at e4 e21
    have nl : ¬ h.mi 200 4 = 0 := by rw [e4]; exact z_1
    obtain ⟨i0, pc, n, q, E, V, Jj, P, TM⟩ := in_cur I hld
    have VN := V.1.2
    have PN := P.2.1
    by_cases r : h.mi sc (i + 1) < 1 ∨ ¬ h.mi sc (i + 1) ≤ 100
    · skip
      obtain ⟨H1, s1, s2, s3, f7, f9, f3, -⟩ := in_g I Sa CQ.thr (Or.inl rfl)
      have g2 := m_47x (t := h.mi sc (i + 1)) H1 (by rw [f7, e21]; exact z_1) (rg1_n (n := 100) (by decide) r)
      obtain ⟨J, j7, j9, jm⟩ := in_cm I CQ.thr (Or.inl rfl) (MQw.t (x := 2))
      obtain ⟨tl', e⟩ := lx_42 (tl := tl) hl hi ks s1 s2 k2 s3 j7 (m_5 jm) two_0 (w_46_x2 k2 (m_185x G nl r)) g2 mi_ss
      exact ⟨tl', _, e, J⟩
    · skip
      have ea0 := rg1_y (n := 100) (i := h.mi sc (i + 1)) (x := 100) (by decide) (fun z => r (Or.inl z)) (Classical.byContradiction fun z => r (Or.inr z))
      obtain ⟨ei, t, t1, t2, et⟩ := ea0
      have Tc := A.1.2.2.2.2.2.1
      have hbc := st_dis T Tc A.2.1.2.2.1
      have hub : u + 7 ≤ b := by
        have z := A.2.1.1.1
        have z2 := A.1.2.1
        omega
      have huc : u + 7 ≤ cc := by
        have z := A.2.1.2.1.1
        have z2 := A.1.2.1
        omega
      have hcc : cc + 19 ≤ 273 ∨ 291 ≤ cc := by
        have z := A.2.1.2.1.1
        omega
      have n13 : rowsAt h b 13 0 = Int32.ofNat n := V.1.1.2.2.2.2.1
      have n7 : h.mi (b + 7) 0 = Int32.ofNat X.cu.1 := V.1.1.2.2.1
      have Z : RS X.ns X.du X.cu.1 X.cu.2.1 (rowsAt h b) (h.mi 283) := ⟨i0, pc, n, q, E, V, Jj⟩
      have ht : X.cu.2.1 + t ≤ 1000000 := by omega
      have hD : ∀ o, o < 7 → h.mi (u + o) = rowsAt h u o := fun _ _ => rfl
      have m8 : h.mi 283 8 = Int32.ofNat n := E.1.2.2.2.2.2.2.2.2.trans n13
      have a1 : ¬ Int32.ofNat t < 1 := by rw [← et]; exact fun z => r (Or.inl z)
      have a2 : Int32.ofNat t ≤ 100 := by rw [← et]; exact Classical.byContradiction fun z => r (Or.inr z)
      rw [et] at ei
      have Zc := cp_rs (Q := rowsAt h cc) (W := h.mi 285) Z n13 (by omega)
      have c13 := cp_13 (m := X.cu.1) (Q := rowsAt h cc) n13
      obtain ⟨jj, g1⟩ := m_185y (t := t) (n := X.cu.1) (m := n) t1 t2 hub huc (by omega) (by omega) hbc G U T Tc nl n7 n13 (fun j => it2 (tiC (rowsAt h u)) j (cpR X.cu.1 n (rowsAt h b) (rowsAt h cc))) rfl (fun j => wk (rowsAt h u) j (cpR X.cu.1 n (rowsAt h b) (rowsAt h cc))) (fun j hj => ⟨wi_c P Zc ht huc Tc U hD j hj, (wi_v P Zc (show X.cu.2.1 + (j + 1) ≤ 1000000 by omega) c13 (by omega)).2.1, (wi_v P Zc (show X.cu.2.1 + (j + 1) ≤ 1000000 by omega) c13 (by omega)).1.2⟩)
      obtain ⟨vv, hv⟩ : ∃ vv, vv = oN (fnd (fun j => decide (ltF (h.mi u 6) (rowsAt h b) n < ltF (h.mi u 6) ((fun j => it2 (tiC (rowsAt h u)) j (cpR X.cu.1 n (rowsAt h b) (rowsAt h cc))) j) ((fun j => wk (rowsAt h u) j (cpR X.cu.1 n (rowsAt h b) (rowsAt h cc))) j))) t 1) := ⟨_, rfl⟩
      rw [← hv, ← et] at g1
      obtain ⟨H1, s1, s2, s3, f7, f9, f3, k90⟩ := in_g I Sa (CQ.sb (Q := (fun j => it2 (tiC (rowsAt h u)) j (cpR X.cu.1 n (rowsAt h b) (rowsAt h cc))) jj) hcc) (Or.inr ⟨vv.toInt64, rfl⟩)
      have nl1 : ¬ ((h.sb cc ((fun j => it2 (tiC (rowsAt h u)) j (cpR X.cu.1 n (rowsAt h b) (rowsAt h cc))) jj)).sl 290 0 vv.toInt64).mi 277 21 = 0 := by rw [f7, e21]; exact z_1
      obtain ⟨h1', hh1⟩ : ∃ h1', h1' = (h.sb cc ((fun j => it2 (tiC (rowsAt h u)) j (cpR X.cu.1 n (rowsAt h b) (rowsAt h cc))) jj)).sl 290 0 vv.toInt64 := ⟨_, rfl⟩
      rw [← hh1] at H1 s1 s2 s3 f7 f9 f3 nl1
      have H2 : MO (h1'.si 277 0 0) := H1
      have p9 : (h1'.si 277 0 0).mi 279 = h.mi 279 := (mi_sa (by decide)).trans f9
      have Z2 : RS X.ns X.du X.cu.1 X.cu.2.1 (rowsAt h b) (h1'.mi 283) := by rw [f3]; exact Z
      have m8' : h1'.mi 283 8 = Int32.ofNat n := by rw [f3]; exact m8
      have Zm := cp_rs (Q := rowsAt h cc) (W := h1'.mi 285) Z2 n13 (by omega)
      obtain ⟨j2, g2⟩ := m_47y (t := t) (m := n) t1 t2 (by omega) H1 nl1 ei m8' (fun j => it (tiM (h.mi 279)) j (upto 1168 (h1'.mi 283) (h1'.mi 285))) rfl (fun j => wk (rowsAt h u) j (cpR X.cu.1 n (rowsAt h b) (rowsAt h cc))) (fun j hj => ⟨wi_m P Zm ht H2 p9 j hj, (wi_v P Zm (show X.cu.2.1 + (j + 1) ≤ 1000000 by omega) c13 (by omega)).2.2.1, (wi_v P Zm (show X.cu.2.1 + (j + 1) ≤ 1000000 by omega) c13 (by omega)).1.2⟩)
      have e6 : h.mi u 6 = Int32.ofNat X.du := (P.1.1 6 (by decide)).trans P.2.2.2.2.1.1
      have ev : oN (fnd (fun j => decide (lateF (h1'.mi 283) n < lateF ((fun j => it (tiM (h.mi 279)) j (upto 1168 (h1'.mi 283) (h1'.mi 285))) j) ((fun j => wk (rowsAt h u) j (cpR X.cu.1 n (rowsAt h b) (rowsAt h cc))) j))) t 1) = vv := by
        rw [hv]
        congr 1
        refine (fnd_c t 1 (fun j h1 h2 => ?_)).symm
        have wv := wi_v P Zm (show X.cu.2.1 + j ≤ 1000000 by omega) c13 (by omega)
        have e1 : ltF (Int32.ofNat X.du) (rowsAt h b) n = lateF (h.mi 283) n := q_late E
        have e2 := wv.2.2.2.2.1
        show decide (ltF (h.mi u 6) (rowsAt h b) n < ltF (h.mi u 6) (it2 (tiC (rowsAt h u)) j (cpR X.cu.1 n (rowsAt h b) (rowsAt h cc))) (wk (rowsAt h u) j (cpR X.cu.1 n (rowsAt h b) (rowsAt h cc)))) = _
        rw [e6, e1, e2, f3]
      rw [ev, ← et] at g2
      subst hh1
      obtain ⟨J, j7, j9, jm⟩ := in_cm I (CQ.sb hcc) (Or.inr ⟨vv.toInt64, rfl⟩) (MQw.tr (MQw.t (x := 0)) (MQw.w (Or.inl rfl)))
      obtain ⟨tl', e⟩ := lv_42 (tl := tl) hl hi ks s1 s2 k2 s3 j7 (m_5 jm) j9 (w_46 k2 k90 g1) g2 m0_sw sl_ml
      exact ⟨tl', _, e, J⟩
theorem st_41 {h0 : Mm} {c sc len : Nat} (Sa : STA h0 sc len) (hc : c ≤ 600) : STP h0 sc len c 2168 := by
  intro i tl h hi hI
  obtain ⟨X, u, d, b, cc, v, cap, I⟩ := hI
  have I : IN6 h0 c X u d b cc v cap h := I
  obtain ⟨ks, hl, k2, e4, e21⟩ := in_f I Sa
  have A := I.2.1
  have M := I.2.2.1
  have G := A.1.1
  have U := A.1.2.2.1
  have T := A.1.2.2.2.2.1
  cases hld : X.ld with
  | false =>
    rw [hld, b2i_0] at e4 e21
    obtain ⟨H1, s1, s2, s3, f7, f9, f3, -⟩ := in_g I Sa CQ.thr (Or.inl rfl)
    have g2 := m_49n (i := h.mi sc (i + 1)) (t := h.mi sc (i + 2)) H1 (by rw [f7]; exact e21)
    obtain ⟨J, j7, j9, jm⟩ := in_cm I CQ.thr (Or.inl rfl) (MQw.t (x := 1))
    obtain ⟨tl', e⟩ := lx_41 (tl := tl) hl hi ks s1 s2 k2 s3 j7 (m_5 jm) z_1 (w_48_x0 k2 (m_188n G U e4)) g2 mi_ss
    exact ⟨tl', _, e, J⟩
  | true =>
    rw [hld, b2i_1] at e4 e21
    have nl : ¬ h.mi 200 4 = 0 := by rw [e4]; exact z_1
    obtain ⟨i0, pc, n, q, E, V, Jj, P, TM⟩ := in_cur I hld
    have VN := V.1.2
    have PN := P.2.1
    have cna : h.mi u 11 = Int32.ofNat (X.ns) := P.2.1.2.2.1
    have bda : X.ns ≤ 4 := by omega
    have mea : h.mi 279 7 = Int32.ofNat (X.ns) := P.2.1.2.2.2.1
    by_cases ra : h.mi sc (i + 1) < 0 ∨ ¬ h.mi sc (i + 1) < h.mi u 11
    · skip
      obtain ⟨H1, s1, s2, s3, f7, f9, f3, -⟩ := in_g I Sa CQ.thr (Or.inl rfl)
      have g2 := m_49x (i := h.mi sc (i + 1)) (t := h.mi sc (i + 2)) H1 (by rw [f7, e21]; exact z_1) (by rw [show h.thr.mi 279 7 = h.mi 279 7 from rfl, mea]; exact rng_n (by omega) (by rw [← cna]; exact ra))
      obtain ⟨J, j7, j9, jm⟩ := in_cm I CQ.thr (Or.inl rfl) (MQw.t (x := 2))
      obtain ⟨tl', e⟩ := lx_41 (tl := tl) hl hi ks s1 s2 k2 s3 j7 (m_5 jm) two_0 (w_48_x1 k2 (m_188x G U nl ra)) g2 mi_ss
      exact ⟨tl', _, e, J⟩
    · skip
      have r0a : ¬ h.mi sc (i + 1) < 0 := fun z => ra (Or.inl z)
      have r1a : h.mi sc (i + 1) < h.mi u 11 := Classical.byContradiction fun z => ra (Or.inr z)
      have r2a := r1a
      rw [cna] at r2a
      obtain ⟨eia, ka, hka, eka⟩ := rng_y (by omega) r0a r2a
      rw [eka] at eia
      have r3a : Int32.ofNat ka < h.mi u 11 := by rw [← eka]; exact r1a
      by_cases r : h.mi sc (i + 2) < 1 ∨ ¬ h.mi sc (i + 2) ≤ 100
      · skip
        obtain ⟨H1, s1, s2, s3, f7, f9, f3, -⟩ := in_g I Sa CQ.thr (Or.inl rfl)
        have g2 := m_49z (i := h.mi sc (i + 1)) (t := h.mi sc (i + 2)) H1 (by rw [f7, e21]; exact z_1) (by rw [show h.thr.mi 279 7 = h.mi 279 7 from rfl, mea, eka]; exact eia) (rg1_n (n := 100) (by decide) r)
        obtain ⟨J, j7, j9, jm⟩ := in_cm I CQ.thr (Or.inl rfl) (MQw.t (x := 3))
        obtain ⟨tl', e⟩ := lx_41 (tl := tl) hl hi ks s1 s2 k2 s3 j7 (m_5 jm) three_0 (w_48_x2 k2 (m_188z G U nl r0a r1a r)) g2 mi_ss
        exact ⟨tl', _, e, J⟩
      · skip
        have ea0 := rg1_y (n := 100) (i := h.mi sc (i + 2)) (x := 100) (by decide) (fun z => r (Or.inl z)) (Classical.byContradiction fun z => r (Or.inr z))
        obtain ⟨ei, t, t1, t2, et⟩ := ea0
        have Tc := A.1.2.2.2.2.2.1
        have hbc := st_dis T Tc A.2.1.2.2.1
        have hub : u + 7 ≤ b := by
          have z := A.2.1.1.1
          have z2 := A.1.2.1
          omega
        have huc : u + 7 ≤ cc := by
          have z := A.2.1.2.1.1
          have z2 := A.1.2.1
          omega
        have hcc : cc + 19 ≤ 273 ∨ 291 ≤ cc := by
          have z := A.2.1.2.1.1
          omega
        have n13 : rowsAt h b 13 0 = Int32.ofNat n := V.1.1.2.2.2.2.1
        have n7 : h.mi (b + 7) 0 = Int32.ofNat X.cu.1 := V.1.1.2.2.1
        have Z : RS X.ns X.du X.cu.1 X.cu.2.1 (rowsAt h b) (h.mi 283) := ⟨i0, pc, n, q, E, V, Jj⟩
        have ht : X.cu.2.1 + t ≤ 1000000 := by omega
        have hD : ∀ o, o < 7 → h.mi (u + o) = rowsAt h u o := fun _ _ => rfl
        have m8 : h.mi 283 8 = Int32.ofNat n := E.1.2.2.2.2.2.2.2.2.trans n13
        have a1 : ¬ Int32.ofNat t < 1 := by rw [← et]; exact fun z => r (Or.inl z)
        have a2 : Int32.ofNat t ≤ 100 := by rw [← et]; exact Classical.byContradiction fun z => r (Or.inr z)
        rw [et] at ei
        have Zc := cp_rs (Q := rowsAt h cc) (W := h.mi 285) Z n13 (by omega)
        have c13 := cp_13 (m := X.cu.1) (Q := rowsAt h cc) n13
        obtain ⟨jj, g1⟩ := m_188y (i := Int32.ofNat ka) (t := t) (n := X.cu.1) (m := n) t1 t2 (by omega) (by omega) hbc G U T Tc nl (by rw [← eka]; exact r0a) r3a n7 n13 (fun j => it2 (tiC (rowsAt h u)) j (cpR X.cu.1 n (rowsAt h b) (rowsAt h cc))) rfl (fun j => wk (rowsAt h u) j (cpR X.cu.1 n (rowsAt h b) (rowsAt h cc))) (fun j hj => ⟨wi_c P Zc ht huc Tc U hD j hj, (wi_v P Zc (show X.cu.2.1 + (j + 1) ≤ 1000000 by omega) c13 (by omega)).2.1, (wi_v P Zc (show X.cu.2.1 + (j + 1) ≤ 1000000 by omega) c13 (by omega)).1.2⟩)
        obtain ⟨vv, hv⟩ : ∃ vv, vv = oN (fnd (fun j => decide (fl (cnO (rowsAt h b) (Int32.ofNat ka)) n 0 0 < fl (cnO ((fun j => it2 (tiC (rowsAt h u)) j (cpR X.cu.1 n (rowsAt h b) (rowsAt h cc))) j) (Int32.ofNat ka)) ((fun j => wk (rowsAt h u) j (cpR X.cu.1 n (rowsAt h b) (rowsAt h cc))) j) 0 0)) t 1) := ⟨_, rfl⟩
        rw [← hv, ← et, ← eka] at g1
        obtain ⟨H1, s1, s2, s3, f7, f9, f3, k90⟩ := in_g I Sa (CQ.sb (Q := (fun j => it2 (tiC (rowsAt h u)) j (cpR X.cu.1 n (rowsAt h b) (rowsAt h cc))) jj) hcc) (Or.inr ⟨vv.toInt64, rfl⟩)
        have nl1 : ¬ ((h.sb cc ((fun j => it2 (tiC (rowsAt h u)) j (cpR X.cu.1 n (rowsAt h b) (rowsAt h cc))) jj)).sl 290 0 vv.toInt64).mi 277 21 = 0 := by rw [f7, e21]; exact z_1
        obtain ⟨h1', hh1⟩ : ∃ h1', h1' = (h.sb cc ((fun j => it2 (tiC (rowsAt h u)) j (cpR X.cu.1 n (rowsAt h b) (rowsAt h cc))) jj)).sl 290 0 vv.toInt64 := ⟨_, rfl⟩
        rw [← hh1] at H1 s1 s2 s3 f7 f9 f3 nl1
        have H2 : MO (h1'.si 277 0 0) := H1
        have p9 : (h1'.si 277 0 0).mi 279 = h.mi 279 := (mi_sa (by decide)).trans f9
        have Z2 : RS X.ns X.du X.cu.1 X.cu.2.1 (rowsAt h b) (h1'.mi 283) := by rw [f3]; exact Z
        have m8' : h1'.mi 283 8 = Int32.ofNat n := by rw [f3]; exact m8
        have Zm := cp_rs (Q := rowsAt h cc) (W := h1'.mi 285) Z2 n13 (by omega)
        obtain ⟨j2, g2⟩ := m_49y (i := Int32.ofNat ka) (t := t) (m := n) t1 t2 H1 nl1 (by rw [f9, mea]; exact eia) m8' (fun j => it (tiM (h.mi 279)) j (upto 1168 (h1'.mi 283) (h1'.mi 285))) rfl (fun j => wk (rowsAt h u) j (cpR X.cu.1 n (rowsAt h b) (rowsAt h cc))) (fun j hj => ⟨wi_m P Zm ht H2 p9 j hj, (wi_v P Zm (show X.cu.2.1 + (j + 1) ≤ 1000000 by omega) c13 (by omega)).2.2.1, (wi_v P Zm (show X.cu.2.1 + (j + 1) ≤ 1000000 by omega) c13 (by omega)).1.1, (wi_v P Zm (show X.cu.2.1 + (j + 1) ≤ 1000000 by omega) c13 (by omega)).1.2⟩)
        have ev : oN (fnd (fun j => decide (0 < fl (bxS ((fun j => it (tiM (h.mi 279)) j (upto 1168 (h1'.mi 283) (h1'.mi 285))) j) (Int32.ofNat ka)) ((fun j => wk (rowsAt h u) j (cpR X.cu.1 n (rowsAt h b) (rowsAt h cc))) j - n) n 0)) t 1) = vv := by
          rw [hv]
          congr 1
          refine (fnd_c t 1 (fun j h1 h2 => ?_)).symm
          have wv := wi_v P Zm (show X.cu.2.1 + j ≤ 1000000 by omega) c13 (by omega)
          have e0 : fl (cnO (rowsAt h b) (Int32.ofNat ka)) n 0 0 = fl (cnO (cpR X.cu.1 n (rowsAt h b) (rowsAt h cc)) (Int32.ofNat ka)) n 0 0 := fl_congr n 0 0 (fun j y _ hj => by
            unfold cnO
            rw [show (cpR X.cu.1 n (rowsAt h b) (rowsAt h cc)) 14 j = rowsAt h b 14 j from cp_at (show j < n by omega)])
          rw [e0]
          exact wv.2.2.2.2.2.1 (Int32.ofNat ka) (oN_s (by omega))
        rw [ev, ← et, ← eka] at g2
        subst hh1
        obtain ⟨J, j7, j9, jm⟩ := in_cm I (CQ.sb hcc) (Or.inr ⟨vv.toInt64, rfl⟩) (MQw.tr (MQw.t (x := 0)) (MQw.w (Or.inl rfl)))
        obtain ⟨tl', e⟩ := lv_41 (tl := tl) hl hi ks s1 s2 k2 s3 j7 (m_5 jm) j9 (w_48 k2 k90 g1) g2 m0_sw sl_ml
        exact ⟨tl', _, e, J⟩
