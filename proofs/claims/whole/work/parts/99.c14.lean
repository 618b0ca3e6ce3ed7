-- ===== calls: the best rule, limit, move; lookahead =====
theorem st_43 {h0 : Mm} {c sc len : Nat} (Sa : STA h0 sc len) (hc : c ≤ 600) : STP h0 sc len c 2292 := by
  intro i tl h hi hI
  obtain ⟨X, u, d, b, cc, v, cap, I⟩ := hI
  have I : IN6 h0 c X u d b cc v cap h := I
  obtain ⟨ks, hl, k2, e4, e21⟩ := in_f I Sa
  have A := I.2.1
  have M := I.2.2.1
  have G := A.1.1
  have U := A.1.2.2.1
  have T := A.1.2.2.2.2.1
  cases hld : X.ld with
  | false =>
    rw [hld, b2i_0] at e4 e21
    obtain ⟨H1, s1, s2, s3, f7, f9, f3, -⟩ := in_g I Sa CQ.thr (Or.inl rfl)
    have g2 := m_45n (t := h.mi sc (i + 1)) H1 (by rw [f7]; exact e21)
    obtain ⟨J, j7, j9, jm⟩ := in_cm I CQ.thr (Or.inl rfl) (MQw.t (x := 1))
    obtain ⟨tl', e⟩ := lx_43 (tl := tl) hl hi ks s1 s2 k2 s3 j7 (m_5 jm) z_1 (w_44_x0 k2 (m_184n G e4)) g2 mi_ss
    exact ⟨tl', _, e, J⟩
  | true =>
    rw [hld, b2i_1] at e4 e21
    have nl : ¬ h.mi 200 4 = 0 := by rw [e4]; exact z_1
    obtain ⟨i0, pc, n, q, E, V, Jj, P, TM⟩ := in_cur I hld
    have VN := V.1.2
    have PN := P.2.1
    by_cases r : h.mi sc (i + 1) < 1 ∨ ¬ h.mi sc (i + 1) ≤ 100
    · skip
      obtain ⟨H1, s1, s2, s3, f7, f9, f3, -⟩ := in_g I Sa CQ.thr (Or.inl rfl)
      have g2 := m_45x (t := h.mi sc (i + 1)) H1 (by rw [f7, e21]; exact z_1) (rg1_n (n := 100) (by decide) r)
      obtain ⟨J, j7, j9, jm⟩ := in_cm I CQ.thr (Or.inl rfl) (MQw.t (x := 2))
      obtain ⟨tl', e⟩ := lx_43 (tl := tl) hl hi ks s1 s2 k2 s3 j7 (m_5 jm) two_0 (w_44_x2 k2 (m_184x G nl r)) g2 mi_ss
      exact ⟨tl', _, e, J⟩
    · skip
      have ea0 := rg1_y (n := 100) (i := h.mi sc (i + 1)) (x := 100) (by decide) (fun z => r (Or.inl z)) (Classical.byContradiction fun z => r (Or.inr z))
      obtain ⟨ei, t, t1, t2, et⟩ := ea0
      have Tc := A.1.2.2.2.2.2.1
      have hbc := st_dis T Tc A.2.1.2.2.1
      have hub : u + 7 ≤ b := by
        have z := A.2.1.1.1
        have z2 := A.1.2.1
        omega
      have huc : u + 7 ≤ cc := by
        have z := A.2.1.2.1.1
        have z2 := A.1.2.1
        omega
      have hcc : cc + 19 ≤ 273 ∨ 291 ≤ cc := by
        have z := A.2.1.2.1.1
        omega
      have n13 : rowsAt h b 13 0 = Int32.ofNat n := V.1.1.2.2.2.2.1
      have n7 : h.mi (b + 7) 0 = Int32.ofNat X.cu.1 := V.1.1.2.2.1
      have Z : RS X.ns X.du X.cu.1 X.cu.2.1 (rowsAt h b) (h.mi 283) := ⟨i0, pc, n, q, E, V, Jj⟩
      have ht : X.cu.2.1 + t ≤ 1000000 := by omega
      have hD : ∀ o, o < 7 → h.mi (u + o) = rowsAt h u o := fun _ _ => rfl
      have m8 : h.mi 283 8 = Int32.ofNat n := E.1.2.2.2.2.2.2.2.2.trans n13
      have a1 : ¬ Int32.ofNat t < 1 := by rw [← et]; exact fun z => r (Or.inl z)
      have a2 : Int32.ofNat t ≤ 100 := by rw [← et]; exact Classical.byContradiction fun z => r (Or.inr z)
      rw [et] at ei
      obtain ⟨Q0, hQ0⟩ : ∃ Q0 : Nat → Nat → Int32, Q0 = fun _ _ => 0 := ⟨_, rfl⟩
      obtain ⟨W0, hW0⟩ : ∃ W0 : Nat → Int32, W0 = fun _ => 0 := ⟨_, rfl⟩
      have Zq : ∀ (Q : Nat → Nat → Int32) (W : Nat → Int32) (r : Nat), r < 3 → RS X.ns X.du X.cu.1 X.cu.2.1 (zu2 (cpR X.cu.1 n (rowsAt h b) Q) 0 1 (Int32.ofNat r)) (zu (upto 1168 (h.mi 283) W) 1 (Int32.ofNat r)) := fun Q W r hr => ru_ok (cp_rs Z n13 (by omega))
      have cq : ∀ (Q : Nat → Nat → Int32) (r : Nat), (zu2 (cpR X.cu.1 n (rowsAt h b) Q) 0 1 (Int32.ofNat r)) 13 0 = Int32.ofNat n := fun Q r => (z2_ne (by omega)).trans (cp_13 n13)
      obtain ⟨kk, hkk⟩ : ∃ kk : Nat → Nat, kk = fun r => wk (rowsAt h u) t (zu2 (cpR X.cu.1 n (rowsAt h b) Q0) 0 1 (Int32.ofNat r)) := ⟨_, rfl⟩
      obtain ⟨gg, hgg⟩ : ∃ gg : Nat → Int32, gg = fun r => fl (ovS (it (tiM (h.mi 279)) t (zu (upto 1168 (h.mi 283) W0) 1 (Int32.ofNat r))) (-1)) (kk r - n) n 0 := ⟨_, rfl⟩
      have same : ∀ (Q : Nat → Nat → Int32) (W : Nat → Int32) (r : Nat), r < 3 → (n ≤ kk r ∧ kk r ≤ 80) ∧ it2 (tiC (rowsAt h u)) t (zu2 (cpR X.cu.1 n (rowsAt h b) Q) 0 1 (Int32.ofNat r)) 13 0 = Int32.ofNat (kk r) ∧ it (tiM (h.mi 279)) t (zu (upto 1168 (h.mi 283) W) 1 (Int32.ofNat r)) 8 = Int32.ofNat (kk r) ∧ fl (fun j a => a + exF (it2 (tiC (rowsAt h u)) t (zu2 (cpR X.cu.1 n (rowsAt h b) Q) 0 1 (Int32.ofNat r))) j) (kk r - n) n 0 = fl (ovS (it (tiM (h.mi 279)) t (zu (upto 1168 (h.mi 283) W) 1 (Int32.ofNat r))) (-1)) (kk r - n) n 0 := fun Q W r hr => by
        have w1 := wi_v P (Zq Q W r hr) ht (cq Q r) (by omega)
        have w2 := wi_v P (Zq Q0 W r hr) ht (cq Q0 r) (by omega)
        have ek : wk (rowsAt h u) t (zu2 (cpR X.cu.1 n (rowsAt h b) Q) 0 1 (Int32.ofNat r)) = kk r := by
          rw [hkk]
          show _ = wk (rowsAt h u) t (zu2 (cpR X.cu.1 n (rowsAt h b) Q0) 0 1 (Int32.ofNat r))
          have e := w1.2.2.1.symm.trans w2.2.2.1
          exact Classical.byContradiction fun z => i32_ne (by have := w1.1.2; omega) (by have := w2.1.2; omega) z e
        rw [ek] at w1
        exact ⟨w1.1, w1.2.1, w1.2.2.1, w1.2.2.2.1⟩
      have sg : ∀ (Q : Nat → Nat → Int32) (W : Nat → Int32) (r : Nat), r < 3 → fl (fun j a => a + exF (it2 (tiC (rowsAt h u)) t (zu2 (cpR X.cu.1 n (rowsAt h b) Q) 0 1 (Int32.ofNat r))) j) (kk r - n) n 0 = fl (ovS (it (tiM (h.mi 279)) t (zu (upto 1168 (h.mi 283) W0) 1 (Int32.ofNat r))) (-1)) (kk r - n) n 0 ∧ fl (ovS (it (tiM (h.mi 279)) t (zu (upto 1168 (h.mi 283) W) 1 (Int32.ofNat r))) (-1)) (kk r - n) n 0 = fl (ovS (it (tiM (h.mi 279)) t (zu (upto 1168 (h.mi 283) W0) 1 (Int32.ofNat r))) (-1)) (kk r - n) n 0 := fun Q W r hr => ⟨(same Q W0 r hr).2.2.2, ((same Q0 W r hr).2.2.2).symm.trans (same Q0 W0 r hr).2.2.2⟩
      obtain ⟨Qr, g1⟩ := m_184y (t := Int32.ofNat t) (n := X.cu.1) (m := n) hub huc (by omega) (by omega) hbc G T Tc nl a1 a2 n7 n13 kk gg (fun Q r hr => ⟨(same Q W0 r hr).1, _, s_268 P (Zq Q W0 r hr) ht huc Tc U hD, (same Q W0 r hr).2.1, by rw [hgg]; exact (sg Q W0 r hr).1⟩)
      obtain ⟨vv, hv⟩ : ∃ vv, vv = (fl (brS gg (fun r => Int32.ofNat (kk r) - Int32.ofNat n)) 3 0 (0, 0, 0)).1 := ⟨_, rfl⟩
      rw [← hv, ← et] at g1
      obtain ⟨H1, s1, s2, s3, f7, f9, f3, k90⟩ := in_g I Sa (CQ.sb (Q := Qr) hcc) (Or.inr ⟨vv.toInt64, rfl⟩)
      have nl1 : ¬ ((h.sb cc Qr).sl 290 0 vv.toInt64).mi 277 21 = 0 := by rw [f7, e21]; exact z_1
      obtain ⟨h1', hh1⟩ : ∃ h1', h1' = (h.sb cc Qr).sl 290 0 vv.toInt64 := ⟨_, rfl⟩
      rw [← hh1] at H1 s1 s2 s3 f7 f9 f3 nl1
      have H2 : MO (h1'.si 277 0 0) := H1
      have p9 : (h1'.si 277 0 0).mi 279 = h.mi 279 := (mi_sa (by decide)).trans f9
      have Z2 : RS X.ns X.du X.cu.1 X.cu.2.1 (rowsAt h b) (h1'.mi 283) := by rw [f3]; exact Z
      have m8' : h1'.mi 283 8 = Int32.ofNat n := by rw [f3]; exact m8
      obtain ⟨Wr, g2⟩ := m_45y (t := Int32.ofNat t) (m := n) (by omega) H1 nl1 ei m8' kk gg (fun W r hr => ⟨(same Q0 W r hr).1, _, s_176 (D := rowsAt h u) P (by rw [f3]; exact Zq Q0 W r hr) ht H2 (by decide) (mk_285 H2) p9, by rw [f3]; exact (same Q0 W r hr).2.2.1, by rw [hgg, f3]; exact (sg Q0 W r hr).2⟩)
      rw [← br_eq (g := gg) (k := kk) (m := n) (fun r hr => (same Q0 W0 r hr).1), ← hv, ← et] at g2
      subst hh1
      obtain ⟨J, j7, j9, jm⟩ := in_cm I (CQ.sb hcc) (Or.inr ⟨vv.toInt64, rfl⟩) (MQw.tr (MQw.t (x := 0)) (MQw.w (Or.inl rfl)))
      obtain ⟨tl', e⟩ := lv_43 (tl := tl) hl hi ks s1 s2 k2 s3 j7 (m_5 jm) j9 (w_44 k2 k90 g1) g2 m0_sw sl_ml
      exact ⟨tl', _, e, J⟩
theorem st_45 {h0 : Mm} {c sc len : Nat} (Sa : STA h0 sc len) (hc : c ≤ 600) : STP h0 sc len c 2416 := by
  intro i tl h hi hI
  obtain ⟨X, u, d, b, cc, v, cap, I⟩ := hI
  have I : IN6 h0 c X u d b cc v cap h := I
  obtain ⟨ks, hl, k2, e4, e21⟩ := in_f I Sa
  have A := I.2.1
  have M := I.2.2.1
  have G := A.1.1
  have U := A.1.2.2.1
  have T := A.1.2.2.2.2.1
  cases hld : X.ld with
  | false =>
    rw [hld, b2i_0] at e4 e21
    obtain ⟨H1, s1, s2, s3, f7, f9, f3, -⟩ := in_g I Sa CQ.thr (Or.inl rfl)
    have g2 := m_41n (t := h.mi sc (i + 1)) H1 (by rw [f7]; exact e21)
    obtain ⟨J, j7, j9, jm⟩ := in_cm I CQ.thr (Or.inl rfl) (MQw.t (x := 1))
    obtain ⟨tl', e⟩ := lx_45 (tl := tl) hl hi ks s1 s2 k2 s3 j7 (m_5 jm) z_1 (w_40_x0 k2 (m_181n G e4)) g2 mi_ss
    exact ⟨tl', _, e, J⟩
  | true =>
    rw [hld, b2i_1] at e4 e21
    have nl : ¬ h.mi 200 4 = 0 := by rw [e4]; exact z_1
    obtain ⟨i0, pc, n, q, E, V, Jj, P, TM⟩ := in_cur I hld
    have VN := V.1.2
    have PN := P.2.1
    by_cases r : h.mi sc (i + 1) < 1 ∨ ¬ h.mi sc (i + 1) ≤ 60
    · skip
      obtain ⟨H1, s1, s2, s3, f7, f9, f3, -⟩ := in_g I Sa CQ.thr (Or.inl rfl)
      have g2 := m_41x (t := h.mi sc (i + 1)) H1 (by rw [f7, e21]; exact z_1) (rg1_n (n := 60) (by decide) r)
      obtain ⟨J, j7, j9, jm⟩ := in_cm I CQ.thr (Or.inl rfl) (MQw.t (x := 2))
      obtain ⟨tl', e⟩ := lx_45 (tl := tl) hl hi ks s1 s2 k2 s3 j7 (m_5 jm) two_0 (w_40_x2 k2 (m_181x G nl r)) g2 mi_ss
      exact ⟨tl', _, e, J⟩
    · skip
      have ea0 := rg1_y (n := 60) (i := h.mi sc (i + 1)) (x := 60) (by decide) (fun z => r (Or.inl z)) (Classical.byContradiction fun z => r (Or.inr z))
      obtain ⟨ei, t, t1, t2, et⟩ := ea0
      have Tc := A.1.2.2.2.2.2.1
      have hbc := st_dis T Tc A.2.1.2.2.1
      have hub : u + 7 ≤ b := by
        have z := A.2.1.1.1
        have z2 := A.1.2.1
        omega
      have huc : u + 7 ≤ cc := by
        have z := A.2.1.2.1.1
        have z2 := A.1.2.1
        omega
      have hcc : cc + 19 ≤ 273 ∨ 291 ≤ cc := by
        have z := A.2.1.2.1.1
        omega
      have n13 : rowsAt h b 13 0 = Int32.ofNat n := V.1.1.2.2.2.2.1
      have n7 : h.mi (b + 7) 0 = Int32.ofNat X.cu.1 := V.1.1.2.2.1
      have Z : RS X.ns X.du X.cu.1 X.cu.2.1 (rowsAt h b) (h.mi 283) := ⟨i0, pc, n, q, E, V, Jj⟩
      have ht : X.cu.2.1 + t ≤ 1000000 := by omega
      have hD : ∀ o, o < 7 → h.mi (u + o) = rowsAt h u o := fun _ _ => rfl
      have m8 : h.mi 283 8 = Int32.ofNat n := E.1.2.2.2.2.2.2.2.2.trans n13
      have a1 : ¬ Int32.ofNat t < 1 := by rw [← et]; exact fun z => r (Or.inl z)
      have a2 : Int32.ofNat t ≤ 60 := by rw [← et]; exact Classical.byContradiction fun z => r (Or.inr z)
      rw [et] at ei
      obtain ⟨Q0, hQ0⟩ : ∃ Q0 : Nat → Nat → Int32, Q0 = fun _ _ => 0 := ⟨_, rfl⟩
      obtain ⟨W0, hW0⟩ : ∃ W0 : Nat → Int32, W0 = fun _ => 0 := ⟨_, rfl⟩
      have Zq : ∀ (Q : Nat → Nat → Int32) (W : Nat → Int32) (r : Nat), r < 101 → RS X.ns X.du X.cu.1 X.cu.2.1 (zu2 (cpR X.cu.1 n (rowsAt h b) Q) 0 2 (Int32.ofNat (10 * r))) (zu (upto 1168 (h.mi 283) W) 2 (Int32.ofNat (10 * r))) := fun Q W r hr => li_ok (by omega) (cp_rs Z n13 (by omega))
      have cq : ∀ (Q : Nat → Nat → Int32) (r : Nat), (zu2 (cpR X.cu.1 n (rowsAt h b) Q) 0 2 (Int32.ofNat (10 * r))) 13 0 = Int32.ofNat n := fun Q r => (z2_ne (by omega)).trans (cp_13 n13)
      obtain ⟨kk, hkk⟩ : ∃ kk : Nat → Nat, kk = fun r => wk (rowsAt h u) t (zu2 (cpR X.cu.1 n (rowsAt h b) Q0) 0 2 (Int32.ofNat (10 * r))) := ⟨_, rfl⟩
      obtain ⟨gg, hgg⟩ : ∃ gg : Nat → Int32, gg = fun r => fl (ovS (it (tiM (h.mi 279)) t (zu (upto 1168 (h.mi 283) W0) 2 (Int32.ofNat (10 * r)))) (-1)) (kk r - n) n 0 - 100 * (Int32.ofNat (kk r) - Int32.ofNat n) := ⟨_, rfl⟩
      have same : ∀ (Q : Nat → Nat → Int32) (W : Nat → Int32) (r : Nat), r < 101 → (n ≤ kk r ∧ kk r ≤ 80) ∧ it2 (tiC (rowsAt h u)) t (zu2 (cpR X.cu.1 n (rowsAt h b) Q) 0 2 (Int32.ofNat (10 * r))) 13 0 = Int32.ofNat (kk r) ∧ it (tiM (h.mi 279)) t (zu (upto 1168 (h.mi 283) W) 2 (Int32.ofNat (10 * r))) 8 = Int32.ofNat (kk r) ∧ fl (fun j a => a + exF (it2 (tiC (rowsAt h u)) t (zu2 (cpR X.cu.1 n (rowsAt h b) Q) 0 2 (Int32.ofNat (10 * r)))) j) (kk r - n) n 0 = fl (ovS (it (tiM (h.mi 279)) t (zu (upto 1168 (h.mi 283) W) 2 (Int32.ofNat (10 * r)))) (-1)) (kk r - n) n 0 := fun Q W r hr => by
        have w1 := wi_v P (Zq Q W r hr) ht (cq Q r) (by omega)
        have w2 := wi_v P (Zq Q0 W r hr) ht (cq Q0 r) (by omega)
        have ek : wk (rowsAt h u) t (zu2 (cpR X.cu.1 n (rowsAt h b) Q) 0 2 (Int32.ofNat (10 * r))) = kk r := by
          rw [hkk]
          show _ = wk (rowsAt h u) t (zu2 (cpR X.cu.1 n (rowsAt h b) Q0) 0 2 (Int32.ofNat (10 * r)))
          have e := w1.2.2.1.symm.trans w2.2.2.1
          exact Classical.byContradiction fun z => i32_ne (by have := w1.1.2; omega) (by have := w2.1.2; omega) z e
        rw [ek] at w1
        exact ⟨w1.1, w1.2.1, w1.2.2.1, w1.2.2.2.1⟩
      have sg : ∀ (Q : Nat → Nat → Int32) (W : Nat → Int32) (r : Nat), r < 101 → fl (fun j a => a + exF (it2 (tiC (rowsAt h u)) t (zu2 (cpR X.cu.1 n (rowsAt h b) Q) 0 2 (Int32.ofNat (10 * r)))) j) (kk r - n) n 0 = fl (ovS (it (tiM (h.mi 279)) t (zu (upto 1168 (h.mi 283) W0) 2 (Int32.ofNat (10 * r)))) (-1)) (kk r - n) n 0 ∧ fl (ovS (it (tiM (h.mi 279)) t (zu (upto 1168 (h.mi 283) W) 2 (Int32.ofNat (10 * r)))) (-1)) (kk r - n) n 0 = fl (ovS (it (tiM (h.mi 279)) t (zu (upto 1168 (h.mi 283) W0) 2 (Int32.ofNat (10 * r)))) (-1)) (kk r - n) n 0 := fun Q W r hr => ⟨(same Q W0 r hr).2.2.2, ((same Q0 W r hr).2.2.2).symm.trans (same Q0 W0 r hr).2.2.2⟩
      obtain ⟨Qr, g1⟩ := m_181y (t := Int32.ofNat t) (n := X.cu.1) (m := n) (by omega) (by omega) hbc G T Tc nl a1 a2 n7 n13 gg (fun Q r hr => ⟨_, kk r, s_268 P (Zq Q W0 r hr) ht huc Tc U hD, (same Q W0 r hr).2.1, (same Q W0 r hr).1.1, (same Q W0 r hr).1.2, by rw [hgg, (sg Q W0 r hr).1]⟩)
      obtain ⟨vv, hv⟩ : ∃ vv, vv = (fl (blS gg) 101 0 (0, 2147483647)).1 := ⟨_, rfl⟩
      rw [← hv, ← et] at g1
      obtain ⟨H1, s1, s2, s3, f7, f9, f3, k90⟩ := in_g I Sa (CQ.sb (Q := Qr) hcc) (Or.inr ⟨vv.toInt64, rfl⟩)
      have nl1 : ¬ ((h.sb cc Qr).sl 290 0 vv.toInt64).mi 277 21 = 0 := by rw [f7, e21]; exact z_1
      obtain ⟨h1', hh1⟩ : ∃ h1', h1' = (h.sb cc Qr).sl 290 0 vv.toInt64 := ⟨_, rfl⟩
      rw [← hh1] at H1 s1 s2 s3 f7 f9 f3 nl1
      have H2 : MO (h1'.si 277 0 0) := H1
      have p9 : (h1'.si 277 0 0).mi 279 = h.mi 279 := (mi_sa (by decide)).trans f9
      have Z2 : RS X.ns X.du X.cu.1 X.cu.2.1 (rowsAt h b) (h1'.mi 283) := by rw [f3]; exact Z
      have m8' : h1'.mi 283 8 = Int32.ofNat n := by rw [f3]; exact m8
      obtain ⟨Wr, g2⟩ := m_41y (t := Int32.ofNat t) (m := n) (by omega) H1 nl1 ei m8' gg (fun W r hr => ⟨_, kk r, s_176 (D := rowsAt h u) P (by rw [f3]; exact Zq Q0 W r hr) ht H2 (by decide) (mk_285 H2) p9, by rw [f3]; exact (same Q0 W r hr).2.2.1, (same Q0 W r hr).1.1, (same Q0 W r hr).1.2, by rw [hgg, f3, (sg Q0 W r hr).2]⟩)
      rw [← bl_eq (g := gg), ← hv, ← et] at g2
      subst hh1
      obtain ⟨J, j7, j9, jm⟩ := in_cm I (CQ.sb hcc) (Or.inr ⟨vv.toInt64, rfl⟩) (MQw.tr (MQw.t (x := 0)) (MQw.w (Or.inl rfl)))
      obtain ⟨tl', e⟩ := lv_45 (tl := tl) hl hi ks s1 s2 k2 s3 j7 (m_5 jm) j9 (w_40 k2 k90 g1) g2 m0_sw sl_ml
      exact ⟨tl', _, e, J⟩
theorem ty_2 {A B : Type} {F : A → Int32} {K : B → Int64} (H : ∀ Q W, ∃ y, y ≤ 950400000 ∧ F Q = Int32.ofNat y ∧ K W = Int64.ofNat y) (Q Q0 : A) (W W0 : B) : F Q = F Q0 ∧ K W = K W0 := by
  obtain ⟨y1, a1, b1, c1⟩ := H Q W0
  obtain ⟨y2, a2, b2, c2⟩ := H Q0 W0
  obtain ⟨y3, a3, b3, c3⟩ := H Q0 W
  have e1 : y1 = y2 := by
    have := congrArg Int64.toInt (c1.symm.trans c2)
    rw [i64_n (by omega), i64_n (by omega)] at this
    omega
  have e2 : y3 = y2 := Classical.byContradiction fun z => i32_ne (by omega) (by omega) z (b3.symm.trans b2)
  subst e1
  subst e2
  exact ⟨b1.trans b2.symm, c3.trans c2.symm⟩
theorem st_44 {h0 : Mm} {c sc len : Nat} (Sa : STA h0 sc len) (hc : c ≤ 600) : STP h0 sc len c 2348 := by
  intro i tl h hi hI
  obtain ⟨X, u, d, b, cc, v, cap, I⟩ := hI
  have I : IN6 h0 c X u d b cc v cap h := I
  obtain ⟨ks, hl, k2, e4, e21⟩ := in_f I Sa
  have A := I.2.1
  have M := I.2.2.1
  have G := A.1.1
  have U := A.1.2.2.1
  have T := A.1.2.2.2.2.1
  cases hld : X.ld with
  | false =>
    rw [hld, b2i_0] at e4 e21
    obtain ⟨H1, s1, s2, s3, f7, f9, f3, -⟩ := in_g I Sa CQ.thr (Or.inl rfl)
    have g2 := m_43n (x := h.mi sc (i + 1)) (t := h.mi sc (i + 2)) H1 (by rw [f7]; exact e21)
    obtain ⟨J, j7, j9, jm⟩ := in_cm I CQ.thr (Or.inl rfl) (MQw.t (x := 1))
    obtain ⟨tl', e⟩ := lx_44 (tl := tl) hl hi ks s1 s2 k2 s3 j7 (m_5 jm) z_1 (w_42_x0 k2 (m_183n G e4)) g2 mi_ss
    exact ⟨tl', _, e, J⟩
  | true =>
    rw [hld, b2i_1] at e4 e21
    have nl : ¬ h.mi 200 4 = 0 := by rw [e4]; exact z_1
    obtain ⟨i0, pc, n, q, E, V, Jj, P, TM⟩ := in_cur I hld
    have VN := V.1.2
    have PN := P.2.1
    by_cases rx : h.mi sc (i + 1) < 1 ∨ ¬ h.mi sc (i + 1) ≤ 999999
    · skip
      obtain ⟨H1, s1, s2, s3, f7, f9, f3, -⟩ := in_g I Sa CQ.thr (Or.inl rfl)
      have g2 := m_43x (x := h.mi sc (i + 1)) (t := h.mi sc (i + 2)) H1 (by rw [f7, e21]; exact z_1) (rg1_n (n := 999999) (by decide) rx)
      obtain ⟨J, j7, j9, jm⟩ := in_cm I CQ.thr (Or.inl rfl) (MQw.t (x := 2))
      obtain ⟨tl', e⟩ := lx_44 (tl := tl) hl hi ks s1 s2 k2 s3 j7 (m_5 jm) two_0 (w_42_x2 k2 (m_183x G nl rx)) g2 mi_ss
      exact ⟨tl', _, e, J⟩
    · obtain ⟨eix, -⟩ := rg1_y (n := 999999) (i := h.mi sc (i + 1)) (x := 999999) (by decide) (fun z => rx (Or.inl z)) (Classical.byContradiction fun z => rx (Or.inr z))
      by_cases r : h.mi sc (i + 2) < 1 ∨ ¬ h.mi sc (i + 2) ≤ 100
      · skip
        obtain ⟨H1, s1, s2, s3, f7, f9, f3, -⟩ := in_g I Sa CQ.thr (Or.inl rfl)
        have g2 := m_43z (x := h.mi sc (i + 1)) (t := h.mi sc (i + 2)) H1 (by rw [f7, e21]; exact z_1) eix (rg1_n (n := 100) (by decide) r)
        obtain ⟨J, j7, j9, jm⟩ := in_cm I CQ.thr (Or.inl rfl) (MQw.t (x := 2))
        obtain ⟨tl', e⟩ := lx_44 (tl := tl) hl hi ks s1 s2 k2 s3 j7 (m_5 jm) two_0 (w_42_x2 k2 (m_183z G nl (fun z => rx (Or.inl z)) (Classical.byContradiction fun z => rx (Or.inr z)) r)) g2 mi_ss
        exact ⟨tl', _, e, J⟩
      · skip
        have ea0 := rg1_y (n := 100) (i := h.mi sc (i + 2)) (x := 100) (by decide) (fun z => r (Or.inl z)) (Classical.byContradiction fun z => r (Or.inr z))
        obtain ⟨ei, t, t1, t2, et⟩ := ea0
        have Tc := A.1.2.2.2.2.2.1
        have hbc := st_dis T Tc A.2.1.2.2.1
        have hub : u + 7 ≤ b := by
          have z := A.2.1.1.1
          have z2 := A.1.2.1
          omega
        have huc : u + 7 ≤ cc := by
          have z := A.2.1.2.1.1
          have z2 := A.1.2.1
          omega
        have hcc : cc + 19 ≤ 273 ∨ 291 ≤ cc := by
          have z := A.2.1.2.1.1
          omega
        have n13 : rowsAt h b 13 0 = Int32.ofNat n := V.1.1.2.2.2.2.1
        have n7 : h.mi (b + 7) 0 = Int32.ofNat X.cu.1 := V.1.1.2.2.1
        have Z : RS X.ns X.du X.cu.1 X.cu.2.1 (rowsAt h b) (h.mi 283) := ⟨i0, pc, n, q, E, V, Jj⟩
        have ht : X.cu.2.1 + t ≤ 1000000 := by omega
        have hD : ∀ o, o < 7 → h.mi (u + o) = rowsAt h u o := fun _ _ => rfl
        have m8 : h.mi 283 8 = Int32.ofNat n := E.1.2.2.2.2.2.2.2.2.trans n13
        have a1 : ¬ Int32.ofNat t < 1 := by rw [← et]; exact fun z => r (Or.inl z)
        have a2 : Int32.ofNat t ≤ 100 := by rw [← et]; exact Classical.byContradiction fun z => r (Or.inr z)
        rw [et] at ei
        obtain ⟨x, hx⟩ : ∃ x, x = h.mi sc (i + 1) := ⟨_, rfl⟩
        rw [← hx] at eix
        have rx1 : ¬ x < 1 := by rw [hx]; exact fun z => rx (Or.inl z)
        have rx2 : x ≤ 999999 := by rw [hx]; exact Classical.byContradiction fun z => rx (Or.inr z)
        obtain ⟨Q0, hQ0⟩ : ∃ Q0 : Nat → Nat → Int32, Q0 = rowsAt h cc := ⟨_, rfl⟩
        obtain ⟨W0, hW0⟩ : ∃ W0 : Nat → Int32, W0 = fun _ => 0 := ⟨_, rfl⟩
        have e6 : h.mi u 6 = Int32.ofNat X.du := (P.1.1 6 (by decide)).trans P.2.2.2.2.1.1
        have ep : ∀ k, k < X.ns → h.mi (u + 3 + k) 2 = h.mi 279 (12 + k) ∧ ∃ pr, pr ≤ 99 ∧ h.mi 279 (12 + k) = Int32.ofNat pr := fun k hk => by
          have z := (P.2.2.2.1 k hk)
          refine ⟨?_, z.2.2.2⟩
          rw [show u + 3 + k = u + (3 + k) by omega]
          exact z.2.1
        have gen : ∀ (R1 : Nat → Nat → Int32) (S1 : Nat → Int32), RS X.ns X.du X.cu.1 X.cu.2.1 R1 S1 → R1 13 0 = Int32.ofNat n → (∃ k, k ≤ 80 ∧ it2 (tiC (rowsAt h u)) t R1 13 0 = Int32.ofNat k ∧ cN (it2 (tiC (rowsAt h u)) t R1 13 0) = k ∧ it (tiM (h.mi 279)) t S1 8 = Int32.ofNat k ∧ cN (it (tiM (h.mi 279)) t S1 8) = k) ∧ ∃ y, y ≤ 950400000 ∧ fl (eaS (h.mi u 6) (fun k => h.mi (u + 3 + k) 2) (it2 (tiC (rowsAt h u)) t (R1)) (cN (it2 (tiC (rowsAt h u)) t (R1) 13 0))) X.ns 0 0 = Int32.ofNat y ∧ fl (eaM (fun k => h.mi 279 (12 + k)) (it (tiM (h.mi 279)) t (S1)) (cN (it (tiM (h.mi 279)) t (S1) 8))) X.ns 0 0 = Int64.ofNat y := fun R1 S1 Z1 h1 => by
          have w1 := wi_v P Z1 ht h1 (by omega)
          obtain ⟨kb, hkb⟩ : ∃ kb, kb = wk (rowsAt h u) t R1 := ⟨_, rfl⟩
          rw [← hkb] at w1
          have c1 : cN (it2 (tiC (rowsAt h u)) t R1 13 0) = kb := by rw [w1.2.1]; exact cN_of (by have := w1.1.2; omega)
          have c2 : cN (it (tiM (h.mi 279)) t S1 8) = kb := by rw [w1.2.2.1]; exact cN_of (by have := w1.1.2; omega)
          refine ⟨⟨kb, w1.1.2, w1.2.1, c1, w1.2.2.1, c2⟩, ?_⟩
          rw [c1, c2]
          refine ea_eq (by omega) (fun k hk => ?_)
          obtain ⟨p1, pr, p2, p3⟩ := ep k hk
          have w2 := w1.2.2.2.2.2.2 (h.mi 279 (12 + k)) k
          rw [e6]
          show erF _ (h.mi (u + 3 + k) 2) _ _ _ = _ ∧ _
          rw [p1]
          exact ⟨w2.1, w2.2 pr p2 p3⟩
        have Zq : ∀ (Q : Nat → Nat → Int32) (W : Nat → Int32) (f t2 : Nat), f < X.ns → t2 < X.ns → RS X.ns X.du X.cu.1 X.cu.2.1 (shQ (cpR X.cu.1 n (rowsAt h b) Q) f t2 x) (shM (upto 1168 (h.mi 283) W) f t2 x) := fun Q W f t2 hf h2 => qu_ok hf h2 (cp_rs Z n13 (by omega))
        have Zp : ∀ (Q : Nat → Nat → Int32) (W : Nat → Int32), RS X.ns X.du X.cu.1 X.cu.2.1 (cpR X.cu.1 n (rowsAt h b) Q) (upto 1168 (h.mi 283) W) := fun Q W => cp_rs Z n13 (by omega)
        have cq : ∀ (Q : Nat → Nat → Int32) (f t2 : Nat), (shQ (cpR X.cu.1 n (rowsAt h b) Q) f t2 x) 13 0 = Int32.ofNat n := fun Q f t2 => by
          unfold shQ
          rw [z2_ne (by omega), z2_ne (by omega)]
          exact cp_13 n13
        obtain ⟨gc0, hgc0⟩ : ∃ gc0, gc0 = fl (eaS (h.mi u 6) (fun k => h.mi (u + 3 + k) 2) (it2 (tiC (rowsAt h u)) t (cpR X.cu.1 n (rowsAt h b) Q0)) (cN (it2 (tiC (rowsAt h u)) t (cpR X.cu.1 n (rowsAt h b) Q0) 13 0))) X.ns 0 0 := ⟨_, rfl⟩
        obtain ⟨gm0, hgm0⟩ : ∃ gm0, gm0 = fl (eaM (fun k => h.mi 279 (12 + k)) (it (tiM (h.mi 279)) t (upto 1168 (h.mi 283) W0)) (cN (it (tiM (h.mi 279)) t (upto 1168 (h.mi 283) W0) 8))) X.ns 0 0 := ⟨_, rfl⟩
        obtain ⟨gc, hgc⟩ : ∃ gc : Nat → Nat → Int32, gc = fun f t2 => fl (eaS (h.mi u 6) (fun k => h.mi (u + 3 + k) 2) (it2 (tiC (rowsAt h u)) t (shQ (cpR X.cu.1 n (rowsAt h b) Q0) f t2 x)) (cN (it2 (tiC (rowsAt h u)) t (shQ (cpR X.cu.1 n (rowsAt h b) Q0) f t2 x) 13 0))) X.ns 0 0 := ⟨_, rfl⟩
        obtain ⟨gm, hgm⟩ : ∃ gm : Nat → Nat → Int64, gm = fun f t2 => fl (eaM (fun k => h.mi 279 (12 + k)) (it (tiM (h.mi 279)) t (shM (upto 1168 (h.mi 283) W0) f t2 x)) (cN (it (tiM (h.mi 279)) t (shM (upto 1168 (h.mi 283) W0) f t2 x) 8))) X.ns 0 0 := ⟨_, rfl⟩
        have sq : ∀ (f t2 : Nat), f < X.ns → t2 < X.ns → ∀ (Q : Nat → Nat → Int32) (W : Nat → Int32), fl (eaS (h.mi u 6) (fun k => h.mi (u + 3 + k) 2) (it2 (tiC (rowsAt h u)) t (shQ (cpR X.cu.1 n (rowsAt h b) Q) f t2 x)) (cN (it2 (tiC (rowsAt h u)) t (shQ (cpR X.cu.1 n (rowsAt h b) Q) f t2 x) 13 0))) X.ns 0 0 = gc f t2 ∧ fl (eaM (fun k => h.mi 279 (12 + k)) (it (tiM (h.mi 279)) t (shM (upto 1168 (h.mi 283) W) f t2 x)) (cN (it (tiM (h.mi 279)) t (shM (upto 1168 (h.mi 283) W) f t2 x) 8))) X.ns 0 0 = gm f t2 := fun f t2 hf h2 Q W => by
          rw [hgc, hgm]
          exact ty_2 (F := fun Q => fl (eaS (h.mi u 6) (fun k => h.mi (u + 3 + k) 2) (it2 (tiC (rowsAt h u)) t (shQ (cpR X.cu.1 n (rowsAt h b) Q) f t2 x)) (cN (it2 (tiC (rowsAt h u)) t (shQ (cpR X.cu.1 n (rowsAt h b) Q) f t2 x) 13 0))) X.ns 0 0) (K := fun W => fl (eaM (fun k => h.mi 279 (12 + k)) (it (tiM (h.mi 279)) t (shM (upto 1168 (h.mi 283) W) f t2 x)) (cN (it (tiM (h.mi 279)) t (shM (upto 1168 (h.mi 283) W) f t2 x) 8))) X.ns 0 0) (fun Q W => (gen _ _ (Zq Q W f t2 hf h2) (cq Q f t2)).2) Q Q0 W W0
        have sp : ∀ (W : Nat → Int32), fl (eaM (fun k => h.mi 279 (12 + k)) (it (tiM (h.mi 279)) t (upto 1168 (h.mi 283) W)) (cN (it (tiM (h.mi 279)) t (upto 1168 (h.mi 283) W) 8))) X.ns 0 0 = gm0 := fun W => by
          rw [hgm0]
          exact (ty_2 (F := fun Q => fl (eaS (h.mi u 6) (fun k => h.mi (u + 3 + k) 2) (it2 (tiC (rowsAt h u)) t (cpR X.cu.1 n (rowsAt h b) Q)) (cN (it2 (tiC (rowsAt h u)) t (cpR X.cu.1 n (rowsAt h b) Q) 13 0))) X.ns 0 0) (K := fun W => fl (eaM (fun k => h.mi 279 (12 + k)) (it (tiM (h.mi 279)) t (upto 1168 (h.mi 283) W)) (cN (it (tiM (h.mi 279)) t (upto 1168 (h.mi 283) W) 8))) X.ns 0 0) (fun Q W => (gen _ _ (Zp Q W) (cp_13 n13)).2) Q0 Q0 W W0).2
        obtain ⟨Qr, g1⟩ := m_183y (x := x) (t := Int32.ofNat t) (n := X.cu.1) (m := n) (ns := X.ns) hub huc (by omega) (by omega) (by omega) hbc G U T Tc nl rx1 rx2 a1 a2 n7 n13 P.2.1.2.2.1 gc0 (by
          obtain ⟨⟨k, b1, b2, b3, b4, b5⟩, -⟩ := gen _ _ (Zp (rowsAt h cc) W0) (cp_13 n13)
          refine ⟨_, k, s_268 P (Zp (rowsAt h cc) W0) ht huc Tc U hD, b2, b1, ?_⟩
          rw [hgc0, hQ0, b3]) gc (fun Q f t2 hf h2 _ => by
          obtain ⟨⟨k, b1, b2, b3, b4, b5⟩, -⟩ := gen _ _ (Zq Q W0 f t2 hf h2) (cq Q f t2)
          refine ⟨_, k, s_268 P (Zq Q W0 f t2 hf h2) ht huc Tc U hD, b2, b1, ?_⟩
          rw [← (sq f t2 hf h2 Q W0).1, b3])
        obtain ⟨vv, hv⟩ : ∃ vv, vv = (fl (fun f a => fl (bvS (fun f t => cmB (rowsAt h b) f t x) gc f) X.ns 0 a) X.ns 0 (gc0, -1)).2 := ⟨_, rfl⟩
        rw [← hv, ← et, hx] at g1
        obtain ⟨H1, s1, s2, s3, f7, f9, f3, k90⟩ := in_g I Sa (CQ.sb (Q := Qr) hcc) (Or.inr ⟨vv.toInt64, rfl⟩)
        have nl1 : ¬ ((h.sb cc Qr).sl 290 0 vv.toInt64).mi 277 21 = 0 := by rw [f7, e21]; exact z_1
        obtain ⟨h1', hh1⟩ : ∃ h1', h1' = (h.sb cc Qr).sl 290 0 vv.toInt64 := ⟨_, rfl⟩
        rw [← hh1] at H1 s1 s2 s3 f7 f9 f3 nl1
        have H2 : MO (h1'.si 277 0 0) := H1
        have p9 : (h1'.si 277 0 0).mi 279 = h.mi 279 := (mi_sa (by decide)).trans f9
        have Z2 : RS X.ns X.du X.cu.1 X.cu.2.1 (rowsAt h b) (h1'.mi 283) := by rw [f3]; exact Z
        have m8' : h1'.mi 283 8 = Int32.ofNat n := by rw [f3]; exact m8
        obtain ⟨Wr, g2⟩ := m_43y (x := x) (t := Int32.ofNat t) (m := n) (nk := X.ns) (by omega) (by omega) H1 nl1 eix ei m8' (by rw [f9]; exact P.2.1.2.2.2.1) gm0 (by
          obtain ⟨⟨k, b1, b2, b3, b4, b5⟩, -⟩ := gen _ _ (Zp Q0 (h1'.mi 285)) (cp_13 n13)
          refine ⟨_, k, s_176 (D := rowsAt h u) (R := cpR X.cu.1 n (rowsAt h b) Q0) P (by rw [f3]; exact Zp Q0 (h1'.mi 285)) ht H2 (by decide) (mk_285 H2) p9, by rw [f3]; exact b4, b1, ?_⟩
          rw [f9, f3, ← sp (h1'.mi 285), b5]) gm (fun W f t2 hf h2 _ => by
          obtain ⟨⟨k, b1, b2, b3, b4, b5⟩, -⟩ := gen _ _ (Zq Q0 W f t2 hf h2) (cq Q0 f t2)
          refine ⟨_, k, s_176 (D := rowsAt h u) (R := shQ (cpR X.cu.1 n (rowsAt h b) Q0) f t2 x) P (by rw [f3]; exact Zq Q0 W f t2 hf h2) ht H2 (by decide) (mk_285 H2) p9, by rw [f3]; exact b4, b1, ?_⟩
          rw [f9, f3, ← (sq f t2 hf h2 Q0 W).2, b5])
        have ev := mv_eq (ns := X.ns) (ok := fun f t => cmB (rowsAt h b) f t x) (ok' := fun f t => cmM (h1'.mi 283) f t x) (g := gc) (g' := gm) (g0 := gc0) (g1 := gm0) (fun f t2 hf h2 => by
          refine ⟨?_, fun _ => ?_⟩
          · show cmB (rowsAt h b) f t2 x = cmM (h1'.mi 283) f t2 x
            unfold cmB cmM
            rw [f3, (E.2.2.1 f hf).2, (E.2.2.2.1 f (by omega)).1]
          · rw [hgc, hgm]
            exact (gen _ _ (Zq Q0 W0 f t2 hf h2) (cq Q0 f t2)).2) (by omega) (by rw [hgc0, hgm0]; exact (gen _ _ (Zp Q0 W0) (cp_13 n13)).2)
        rw [← ev, ← hv, ← et, hx] at g2
        subst hh1
        obtain ⟨J, j7, j9, jm⟩ := in_cm I (CQ.sb hcc) (Or.inr ⟨vv.toInt64, rfl⟩) (MQw.tr (MQw.t (x := 0)) (MQw.w (Or.inl rfl)))
        obtain ⟨tl', e⟩ := lv_44 (tl := tl) hl hi ks s1 s2 k2 s3 j7 (m_5 jm) j9 (w_42 k2 k90 g1) g2 m0_sw sl_ml
        exact ⟨tl', _, e, J⟩
