-- ===== calls: lookahead =====
theorem st_47 {h0 : Mm} {c sc len : Nat} (Sa : STA h0 sc len) : STP h0 sc len c 2540 := by
  intro i tl h hi hI
  obtain ⟨X, u, d, b, cc, v, cap, I⟩ := hI
  have I : IN6 h0 c X u d b cc v cap h := I
  obtain ⟨ks, hl, k2, e4, e21⟩ := in_f I Sa
  have A := I.2.1
  have M := I.2.2.1
  have G := A.1.1
  have U := A.1.2.2.1
  have T := A.1.2.2.2.2.1
  cases hld : X.ld with
  | false =>
    rw [hld, b2i_0] at e4 e21
    have z7 : h.mi 279 7 = Int32.ofNat 0 := (M.2.2.2.2.2.2 hld).2 7
    obtain ⟨H1, s1, s2, s3, f7, f9, f3, -⟩ := in_g I Sa CQ.thr (Or.inl rfl)
    have g2 := m_37n (k := h.mi sc (i + 1)) (p := h.mi sc (i + 2)) (q := h.mi sc (i + 3)) H1 (by rw [f7]; exact e21) (m_166k H1 (by rw [show h.thr.mi 279 7 = h.mi 279 7 from rfl, z7]; exact rng_n (by decide) (by by_cases z : h.mi sc (i + 1) < 0; exact Or.inl z; exact Or.inr z)))
    obtain ⟨J, j7, j9, jm⟩ := in_cm I CQ.thr (Or.inl rfl) (MQw.t (x := 1))
    obtain ⟨tl', e⟩ := lx_47 (tl := tl) hl hi ks s1 s2 k2 s3 j7 (m_5 jm) z_1 (w_36_x0 k2 (m_179n G U e4)) g2 mi_ss
    exact ⟨tl', _, e, J⟩
  | true =>
    rw [hld, b2i_1] at e4 e21
    have nl : ¬ h.mi 200 4 = 0 := by rw [e4]; exact z_1
    obtain ⟨i0, pc, n, q, E, V, Jj, P, -⟩ := in_cur I hld
    have VN := V.1.2
    have PN := P.2.1
    have cna : h.mi u 11 = Int32.ofNat (X.ns) := P.2.1.2.2.1
    have bda : X.ns ≤ 4 := by omega
    have mea : h.mi 279 7 = Int32.ofNat (X.ns) := P.2.1.2.2.2.1
    by_cases ra : h.mi sc (i + 1) < 0 ∨ ¬ h.mi sc (i + 1) < h.mi u 11
    · skip
      obtain ⟨H1, s1, s2, s3, f7, f9, f3, -⟩ := in_g I Sa CQ.thr (Or.inl rfl)
      have g2 := m_37x (k := h.mi sc (i + 1)) (p := h.mi sc (i + 2)) (q := h.mi sc (i + 3)) H1 (by rw [f7, e21]; exact z_1) (m_166k H1 (by rw [show h.thr.mi 279 7 = h.mi 279 7 from rfl, mea]; exact rng_n (by omega) (by rw [← cna]; exact ra)))
      obtain ⟨J, j7, j9, jm⟩ := in_cm I CQ.thr (Or.inl rfl) (MQw.t (x := 2))
      obtain ⟨tl', e⟩ := lx_47 (tl := tl) hl hi ks s1 s2 k2 s3 j7 (m_5 jm) two_0 (w_36_x1 k2 (m_179x G U nl ra)) g2 mi_ss
      exact ⟨tl', _, e, J⟩
    · skip
      have r0a : ¬ h.mi sc (i + 1) < 0 := fun z => ra (Or.inl z)
      have r1a : h.mi sc (i + 1) < h.mi u 11 := Classical.byContradiction fun z => ra (Or.inr z)
      have r2a := r1a
      rw [cna] at r2a
      obtain ⟨eia, ka, hka, eka⟩ := rng_y (by omega) r0a r2a
      rw [eka] at eia
      have r3a : Int32.ofNat ka < h.mi u 11 := by rw [← eka]; exact r1a
      have nbx := (P.2.2.2.1 ka hka).2.2.1
      obtain ⟨nb, nb1, nb2, nb3⟩ := nbx
      have cnp : h.mi (u + 3 + ka) 1 = Int32.ofNat nb := by
        rw [show u + 3 + ka = u + (3 + ka) by omega]
        exact (P.2.2.2.1 ka hka).1.trans nb3
      by_cases rp : h.mi sc (i + 2) < 0 ∨ ¬ h.mi sc (i + 2) < h.mi (u + 3 + ka) 1
      · skip
        obtain ⟨H1, s1, s2, s3, f7, f9, f3, -⟩ := in_g I Sa CQ.thr (Or.inl rfl)
        have g2 := m_37x (k := h.mi sc (i + 1)) (p := h.mi sc (i + 2)) (q := h.mi sc (i + 3)) H1 (by rw [f7, e21]; exact z_1) (by rw [eka]; have := m_166 (k := ka) (p := h.mi sc (i + 2)) (by omega) H1 (by rw [show h.thr.mi 279 7 = h.mi 279 7 from rfl, mea]; exact eia); rw [show h.thr.mi 279 (8 + ka) = h.mi 279 (8 + ka) from rfl, nb3, rng_n (by omega) (by rw [← cnp]; exact rp)] at this; exact this)
        obtain ⟨J, j7, j9, jm⟩ := in_cm I CQ.thr (Or.inl rfl) (MQw.t (x := 2))
        obtain ⟨tl', e⟩ := lx_47 (tl := tl) hl hi ks s1 s2 k2 s3 j7 (m_5 jm) two_0 (w_36_x1 k2 (by rw [eka]; exact m_179p (k := ka) (by omega) G U nl r3a rp)) g2 mi_ss
        exact ⟨tl', _, e, J⟩
      · skip
        have r0p : ¬ h.mi sc (i + 2) < 0 := fun z => rp (Or.inl z)
        have r1p : h.mi sc (i + 2) < h.mi (u + 3 + ka) 1 := Classical.byContradiction fun z => rp (Or.inr z)
        have r2p := r1p
        rw [cnp] at r2p
        obtain ⟨eip, kp, hkp, ekp⟩ := rng_y (by omega) r0p r2p
        rw [ekp] at eip
        have r3p : Int32.ofNat kp < h.mi (u + 3 + ka) 1 := by rw [← ekp]; exact r1p
        have g166 : ∀ h1' : Mm, MO h1' → h1'.mi 279 = h.mi 279 → dM PG 166 [.ref 277, .int (Int32.ofNat ka), .int (Int32.ofNat kp)] h1' = some (.inl (some (.int 1)), h1') := fun h1' H1 e9 => by
          have := m_166 (k := ka) (p := Int32.ofNat kp) (by omega) H1 (by rw [e9, mea]; exact eia)
          rw [e9, nb3, eip] at this
          exact this
        by_cases r : h.mi sc (i + 3) < 1 ∨ ¬ h.mi sc (i + 3) ≤ 12
        · skip
          obtain ⟨H1, s1, s2, s3, f7, f9, f3, -⟩ := in_g I Sa CQ.thr (Or.inl rfl)
          have g2 := m_37r (k := h.mi sc (i + 1)) (p := h.mi sc (i + 2)) (q := h.mi sc (i + 3)) H1 (by rw [f7, e21]; exact z_1) (by rw [eka, ekp]; exact g166 _ H1 rfl) (rg1_n (n := 12) (by decide) r)
          obtain ⟨J, j7, j9, jm⟩ := in_cm I CQ.thr (Or.inl rfl) (MQw.t (x := 3))
          obtain ⟨tl', e⟩ := lx_47 (tl := tl) hl hi ks s1 s2 k2 s3 j7 (m_5 jm) three_0 (w_36_x2 k2 (by rw [eka, ekp]; exact m_179r (k := ka) (p := kp) (by omega) (by omega) G U nl r3a r3p r)) g2 mi_ss
          exact ⟨tl', _, e, J⟩
        · skip
          have ea0 := rg1_y (n := 12) (i := h.mi sc (i + 3)) (x := 12) (by decide) (fun z => r (Or.inl z)) (Classical.byContradiction fun z => r (Or.inr z))
          obtain ⟨ei, t, t1, t2, et⟩ := ea0
          rw [et] at ei
          have x0 : h.mi (b + 7) 1 = Int32.ofNat i0 := V.1.1.2.2.2.1
          have hb6 : b + 19 ≤ 276 ∨ 276 < b := by
            have z := A.2.1.1.1
            omega
          obtain ⟨fd, Wc, hw⟩ : ∃ fd Wc, fl (waS (h.mi (b + 9)) (h.mi (b + 8)) (Int32.ofNat ka) t) (X.cu.1 - i0) i0 (0, h.mi 276) = (fd, Wc) := ⟨_, _, rfl⟩
          have lq := la_eq (m := X.cu.1) (x0 := i0) (most := t) E hka (by omega) (p := kp) (by omega) (by omega) t2 hw (W1 := h.mi 288) rfl
          have g1 := m_179y (k := ka) (p := kp) (q := t) (x0 := i0) (m := X.cu.1) (by omega) (by omega) t1 t2 (by omega) (by omega) hb6 G U T nl r3a r3p V.1.1.2.2.1 x0 hw lq.2.1
          obtain ⟨vv, hv⟩ : ∃ vv, vv = fl (lkS (fun s => fl (suS Wc (Int32.ofNat s)) 12 0 0 - (h.mi (b + 2) ka - h.mi (b + 6) (ka * 3 + kp)))) (2 ^ fd - 1) 1 (-1) := ⟨_, rfl⟩
          rw [← hv, ← eka, ← ekp, ← et] at g1
          obtain ⟨H1, s1, s2, s3, f7, f9, f3, k90⟩ := in_g I Sa (CQ.w6 (W := Wc)) (Or.inr ⟨vv.toInt64, rfl⟩)
          have nl1 : ¬ ((h.sw 276 Wc).sl 290 0 vv.toInt64).mi 277 21 = 0 := by rw [f7, e21]; exact z_1
          obtain ⟨h1', hh1⟩ : ∃ h1', h1' = (h.sw 276 Wc).sl 290 0 vv.toInt64 := ⟨_, rfl⟩
          rw [← hh1] at H1 s1 s2 s3 f7 f9 f3 nl1
          obtain ⟨fm, Wm, hm⟩ : ∃ fm Wm, fl (waS (fun i => h1'.mi 283 (288 + i)) (fun i => h1'.mi 283 (208 + i)) (Int32.ofNat ka) t) (X.cu.1 - i0) i0 (0, h1'.mi 288) = (fm, Wm) := ⟨_, _, rfl⟩
          have g2 := m_37y (k := ka) (p := kp) (q := t) (x0 := i0) (m := X.cu.1) (by omega) (by omega) t2 (by omega) (by omega) H1 nl1 (g166 _ H1 f9) ei (by rw [f3]; exact E.1.2.2.2.2.2.2.2.1.trans V.1.1.2.2.1) (by rw [f3]; exact E.1.2.2.2.2.2.2.1.trans x0) hm
          rw [f3] at hm
          have lm := la_eq (m := X.cu.1) (x0 := i0) (most := t) E hka (by omega) (p := kp) (by omega) (by omega) t2 hw hm
          rw [f3, ← lm.2.2] at g2
          rw [show fl (lkS (fun s => fl (suS Wc (Int32.ofNat s)) 12 0 0 - (rowsAt h b 2 ka - rowsAt h b 6 (ka * 3 + kp)))) (2 ^ fd - 1) 1 (-1) = vv from hv.symm, ← eka, ← ekp, ← et] at g2
          subst hh1
          obtain ⟨J, j7, j9, jm⟩ := in_cm I CQ.w6 (Or.inr ⟨vv.toInt64, rfl⟩) (MQw.tr (MQw.t (x := 0)) (MQw.w (Or.inr rfl)))
          obtain ⟨tl', e⟩ := lv_47 (tl := tl) hl hi ks s1 s2 k2 s3 j7 (m_5 jm) j9 (w_36 k2 k90 g1) g2 m0_s8 sl_ml
          exact ⟨tl', _, e, J⟩
