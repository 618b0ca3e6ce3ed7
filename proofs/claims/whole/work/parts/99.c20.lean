-- ===== calls: addItem, release, combine =====
theorem i64_2 {y : Nat} (h1 : 1 ≤ y) (h2 : y ≤ 9999) : ¬ (2 : Int64) * (Int32.ofNat y).toInt64 = 0 := by
  rw [i64_of (by omega)]
  have e2 : (2 : Int64) * Int64.ofNat y = Int64.ofNat (2 * y) := (Int64.ofNat_mul 2 y).symm
  rw [e2]
  intro z
  have := congrArg Int64.toInt z
  rw [i64_n (by omega)] at this
  have z0 : (0 : Int64).toInt = 0 := by decide
  omega
theorem rm_g {X : WX} {u d b cc v cap i pc n q : Nat} {h h1 : Mm} (hud : u + 7 ≤ b) (rm : RmO X u d b cc v cap h h1) (E : EqR X.ns X.cu.1 pc n (Int32.ofNat X.du) (rowsAt h b) (h.mi 283)) (V : IvR X.ns X.cu.1 i pc n q X.cu.2.1 (rowsAt h b)) (J : EqJ X.cu.1 (rowsAt h b) (h.mi 283)) (P : PlR X.ns X.st X.du (rowsAt h u) (h.mi 279)) : GO h1 u d b cc ∧ SU h1 u ∧ ST h1 b ∧ EqR X.ns X.cu.1 pc n (Int32.ofNat X.du) (rowsAt h1 b) (h.mi 283) ∧ IvR X.ns X.cu.1 i pc n q X.cu.2.1 (rowsAt h1 b) ∧ EqJ X.cu.1 (rowsAt h1 b) (h.mi 283) ∧ PlR X.ns X.st X.du (rowsAt h1 u) (h.mi 279) := by
  have A := rm.2.2.1
  have N := V.1.2
  have e : ∀ o j, j < lims X.cu.1 n o → rowsAt h1 b o j = rowsAt h b o j := fun o j hj => by
    by_cases c : o < 19
    · exact congrFun (rm.2.2.2.1 o c) j
    · rw [lims_19 (by omega)] at hj
      exact absurd hj (Nat.not_lt_zero _)
  refine ⟨A.1.1, A.1.2.2.1, A.1.2.2.2.2.1, EqR_of E (by omega) (by omega) (by omega) (by omega) e (fun _ _ => rfl), IvR_of V e, ?_, PlR_of rm.2.2.2.2 P⟩
  unfold EqJ
  rw [J]
  exact fl_congr _ _ _ (fun j x _ hj => by
    unfold ftS
    rw [show rowsAt h1 b 10 = rowsAt h b 10 from rm.2.2.2.1 10 (by decide)])
theorem st_52 {h0 : Mm} {c sc len : Nat} (Sa : STA h0 sc len) (hc : c ≤ 600) : STP h0 sc len c 2856 := by
  intro i tl h hi hI
  obtain ⟨X, u, d, b, cc, v, cap, I⟩ := hI
  have I : IN6 h0 c X u d b cc v cap h := I
  obtain ⟨ks, hl, k2, e4, e21⟩ := in_f I Sa
  have A := I.2.1
  have M := I.2.2.1
  have G := A.1.1
  have U := A.1.2.2.1
  have T := A.1.2.2.2.2.1
  cases hld : X.ld with
  | false =>
    rw [hld, b2i_0] at e4 e21
    obtain ⟨H1, s1, s2, s3, f7, f9, f3, -⟩ := in_g I Sa CQ.thr (Or.inl rfl)
    have g2 := m_27n (a := h.mi sc (i + 1)) (b := h.mi sc (i + 2)) (k := h.mi sc (i + 3)) (c := h.mi sc (i + 4)) H1 (by rw [f7]; exact e21)
    obtain ⟨J, j7, j9, jm⟩ := in_cm I CQ.thr (Or.inl rfl) (MQw.t (x := 1))
    obtain ⟨tl', e⟩ := lx_52 (tl := tl) hl hi ks s1 s2 k2 s3 j7 (m_5 jm) z_1 (w_26_x0 k2 (m_162n G U e4)) g2 mi_ss
    exact ⟨tl', _, e, J⟩
  | true =>
    rw [hld, b2i_1] at e4 e21
    have nl : ¬ h.mi 200 4 = 0 := by rw [e4]; exact z_1
    obtain ⟨i0, pc, n, q, E, V, Jj, P, -⟩ := in_cur I hld
    have VN := V.1.2
    have PN := P.2.1
    have cna : h.mi u 11 = Int32.ofNat (X.ns) := P.2.1.2.2.1
    have bda : X.ns ≤ 4 := by omega
    have mea : h.mi 279 7 = Int32.ofNat (X.ns) := P.2.1.2.2.2.1
    by_cases ra : h.mi sc (i + 3) < 0 ∨ ¬ h.mi sc (i + 3) < h.mi u 11
    · skip
      obtain ⟨H1, s1, s2, s3, f7, f9, f3, -⟩ := in_g I Sa CQ.thr (Or.inl rfl)
      have g2 := m_27x (a := h.mi sc (i + 1)) (b := h.mi sc (i + 2)) (k := h.mi sc (i + 3)) (c := h.mi sc (i + 4)) H1 (by rw [f7, e21]; exact z_1) (by rw [show h.thr.mi 279 7 = h.mi 279 7 from rfl, mea]; exact rng_n (by omega) (by rw [← cna]; exact ra))
      obtain ⟨J, j7, j9, jm⟩ := in_cm I CQ.thr (Or.inl rfl) (MQw.t (x := 2))
      obtain ⟨tl', e⟩ := lx_52 (tl := tl) hl hi ks s1 s2 k2 s3 j7 (m_5 jm) two_0 (w_26_x1 k2 (m_162x G U nl ra)) g2 mi_ss
      exact ⟨tl', _, e, J⟩
    · skip
      have r0a : ¬ h.mi sc (i + 3) < 0 := fun z => ra (Or.inl z)
      have r1a : h.mi sc (i + 3) < h.mi u 11 := Classical.byContradiction fun z => ra (Or.inr z)
      have r2a := r1a
      rw [cna] at r2a
      obtain ⟨eia, ka, hka, eka⟩ := rng_y (by omega) r0a r2a
      rw [eka] at eia
      have r3a : Int32.ofNat ka < h.mi u 11 := by rw [← eka]; exact r1a
      by_cases r : (h.mi sc (i + 1) < 0 ∨ ¬ h.mi sc (i + 1) ≤ 20000) ∨ (h.mi sc (i + 2) < 1 ∨ ¬ h.mi sc (i + 2) ≤ 9999) ∨ (h.mi sc (i + 4) < 1 ∨ ¬ h.mi sc (i + 4) ≤ 99)
      · skip
        obtain ⟨H1, s1, s2, s3, f7, f9, f3, -⟩ := in_g I Sa CQ.thr (Or.inl rfl)
        have g2 := m_27r (a := h.mi sc (i + 1)) (b := h.mi sc (i + 2)) (k := h.mi sc (i + 3)) (c := h.mi sc (i + 4)) H1 (by rw [f7, e21]; exact z_1) (by rw [show h.thr.mi 279 7 = h.mi 279 7 from rfl, mea, eka]; exact eia) (by rcases r with z | z | z; exact Or.inl (rg0_n (n := 20000) (by decide) z); exact Or.inr (Or.inl (rg1_n (n := 9999) (by decide) z)); exact Or.inr (Or.inr (rg1_n (n := 99) (by decide) z)))
        obtain ⟨J, j7, j9, jm⟩ := in_cm I CQ.thr (Or.inl rfl) (MQw.t (x := 3))
        obtain ⟨tl', e⟩ := lx_52 (tl := tl) hl hi ks s1 s2 k2 s3 j7 (m_5 jm) three_0 (w_26_x2 k2 (m_162r G U nl r0a r1a r)) g2 mi_ss
        exact ⟨tl', _, e, J⟩
      · skip
        have ca1 : ¬ h.mi sc (i + 1) < 0 := fun z => r (Or.inl (Or.inl z))
        have ca2 : h.mi sc (i + 1) ≤ 20000 := Classical.byContradiction fun z => r (Or.inl (Or.inr z))
        have cb1 : ¬ h.mi sc (i + 2) < 1 := fun z => r (Or.inr (Or.inl (Or.inl z)))
        have cb2 : h.mi sc (i + 2) ≤ 9999 := Classical.byContradiction fun z => r (Or.inr (Or.inl (Or.inr z)))
        have cc1 : ¬ h.mi sc (i + 4) < 1 := fun z => r (Or.inr (Or.inr (Or.inl z)))
        have cc2 : h.mi sc (i + 4) ≤ 99 := Classical.byContradiction fun z => r (Or.inr (Or.inr (Or.inr z)))
        obtain ⟨eia', va, va2, eva⟩ := rg0_y (n := 20000) (x := 20000) (by decide) ca1 ca2
        obtain ⟨eib, vb, vb1, vb2, evb⟩ := rg1_y (n := 9999) (x := 9999) (by decide) cb1 cb2
        obtain ⟨eic, vc, vc1, vc2, evc⟩ := rg1_y (n := 99) (x := 99) (by decide) cc1 cc2
        have n7 : h.mi (b + 7) 0 = Int32.ofNat X.cu.1 := V.1.1.2.2.1
        have m9 : h.mi 283 9 = Int32.ofNat X.cu.1 := E.1.2.2.2.2.2.2.2.1.trans n7
        by_cases f80 : X.cu.1 < 80
        · skip
          obtain ⟨h1, rm⟩ := rem_y A M.1 I.2.2.2.2.2 hld
          have hub : u + 7 ≤ b := by
            have z := A.2.1.1.1
            have z2 := A.1.2.1
            omega
          obtain ⟨G1, U1, T1, E1, V1, J1, P1⟩ := rm_g hub rm E V Jj P
          have hu := I.1.2.1
          have hz : ¬ (2 : Int64) * (h.mi sc (i + 2)).toInt64 = 0 := by
            rw [evb]
            exact i64_2 vb1 vb2
          have g1 := m_162y (a := h.mi sc (i + 1)) (b' := h.mi sc (i + 2)) (c' := h.mi sc (i + 4)) (i := X.cu.1) (k := ka) f80 (by omega) hub G U T nl r3a ca1 ca2 cb1 cb2 cc1 cc2 hz n7 rm.1 G1 T1 U1 V1.1.1.2.2.1
          obtain ⟨vv, hv⟩ : ∃ vv, vv = Int32.ofNat X.cu.1 := ⟨_, rfl⟩
          rw [← hv, ← eka] at g1
          obtain ⟨M1, H1, s1, s2, s3, fa, k90⟩ := in_w I Sa (rm_w (R := adF (rowsAt h1 b) X.cu.1 ka (wfF (h.mi sc (i + 1)) (h.mi sc (i + 2)) (h1.mi u 0)) (h.mi sc (i + 4)) (h1.mi u 1)) rm) (Or.inr ⟨vv.toInt64, rfl⟩)
          obtain ⟨h1', hh1⟩ : ∃ h1', h1' = (h1.sb b (adF (rowsAt h1 b) X.cu.1 ka (wfF (h.mi sc (i + 1)) (h.mi sc (i + 2)) (h1.mi u 0)) (h.mi sc (i + 4)) (h1.mi u 1))).sl 290 0 vv.toInt64 := ⟨_, rfl⟩
          rw [← hh1] at M1 H1 s1 s2 s3 fa
          have f7 : h1'.mi 277 = h.mi 277 := fa 277 (by decide) (by decide)
          have f9 : h1'.mi 279 = h.mi 279 := fa 279 (by decide) (by decide)
          have f3 : h1'.mi 283 = h.mi 283 := fa 283 (by decide) (by decide)
          have nl1 : ¬ h1'.mi 277 21 = 0 := by rw [f7, e21]; exact z_1
          have h20 : h1'.mi 277 20 = Int32.ofNat X.nu := M1.2.1.2.2.2.2.2.2.1
          have g2 := m_27y (i := X.cu.1) (nk := X.ns) (a := h.mi sc (i + 1)) (b := h.mi sc (i + 2)) (k := h.mi sc (i + 3)) (c := h.mi sc (i + 4)) f80 (by omega) hu H1 nl1 (by rw [f9, mea, eka]; exact eia) eia' eib eic (by rw [f3]; exact m9) (by rw [f9]; exact mea) h20 hz
          rw [f3, f9, ← hv] at g2
          have Zn : RS X.ns X.du (X.cu.1 + 1) X.cu.2.1 (adF (rowsAt h1 b) X.cu.1 ka (wfF (h.mi sc (i + 1)) (h.mi sc (i + 2)) (h1.mi u 0)) (h.mi sc (i + 4)) (h1.mi u 1)) (aiF (h.mi 283) (h.mi 279) X.cu.1 X.ns (wgF (h.mi sc (i + 1)).toInt64 (h.mi sc (i + 2)).toInt64 (h.mi 279 0)) (h.mi sc (i + 3)) (h.mi sc (i + 4))) := by
            have q0 : h1.mi u 0 = h.mi 279 0 := P1.1.1 0 (by decide)
            have q1 : h1.mi u 1 = h.mi 279 1 := P1.1.1 1 (by decide)
            obtain ⟨rf, rf1, rf2, rf3⟩ := P1.2.2.2.2.2.1
            rw [w_eq, q0, q1, eka, evc]
            refine ad_ok ⟨i0, pc, n, q, E1, V1, J1⟩ f80 hka (by omega) ?_ vc1 vc2 rfl
            rw [eva, evb, rf3]
            exact wf_nat (by omega) vb1 (by omega) rf2
          subst hh1
          obtain ⟨J, j7, j9, jm⟩ := in_rem I hld rm Zn (Nat.le_add_right _ _) (qr_of (by omega) (fun k => (ad_o (by omega) (by omega) (by omega) (by omega)).2) (fun k => (ad_o (by omega) (by omega) (by omega) (by omega)).2)) (Or.inr ⟨vv.toInt64, rfl⟩)
          obtain ⟨tl', e⟩ := lv_52 (tl := tl) hl hi ks s1 s2 k2 s3 j7 (m_5 jm) j9 (w_26 k2 k90 g1) g2 ch_0 sl_ml
          exact ⟨tl', _, e, J⟩
        · have e80 : X.cu.1 = 80 := by omega
          obtain ⟨H1, s1, s2, s3, f7, f9, f3, -⟩ := in_g I Sa CQ.thr (Or.inl rfl)
          have g2 := m_27f (a := h.mi sc (i + 1)) (b := h.mi sc (i + 2)) (k := h.mi sc (i + 3)) (c := h.mi sc (i + 4)) H1 (by rw [f7, e21]; exact z_1) (by rw [show h.thr.mi 279 7 = h.mi 279 7 from rfl, mea, eka]; exact eia) eia' eib eic (by rw [show h.thr.mi 283 9 = h.mi 283 9 from rfl, m9, e80]; rfl)
          obtain ⟨J, j7, j9, jm⟩ := in_cm I CQ.thr (Or.inl rfl) (MQw.t (x := 1))
          obtain ⟨tl', e⟩ := lx_52 (tl := tl) hl hi ks s1 s2 k2 s3 j7 (m_5 jm) z_1 (w_26_x0 k2 (m_162f G U T nl r0a r1a ca1 ca2 cb1 cb2 cc1 cc2 (by rw [n7, e80]; decide))) g2 mi_ss
          exact ⟨tl', _, e, J⟩
theorem st_51 {h0 : Mm} {c sc len : Nat} (Sa : STA h0 sc len) (hc : c ≤ 600) : STP h0 sc len c 2788 := by
  intro i tl h hi hI
  obtain ⟨X, u, d, b, cc, v, cap, I⟩ := hI
  have I : IN6 h0 c X u d b cc v cap h := I
  obtain ⟨ks, hl, k2, e4, e21⟩ := in_f I Sa
  have A := I.2.1
  have M := I.2.2.1
  have G := A.1.1
  have U := A.1.2.2.1
  have T := A.1.2.2.2.2.1
  cases hld : X.ld with
  | false =>
    rw [hld, b2i_0] at e4 e21
    have z7 : h.mi 283 7 = Int32.ofNat 0 := (M.2.2.2.2.2.2 hld).1 7
    obtain ⟨H1, s1, s2, s3, f7, f9, f3, -⟩ := in_g I Sa CQ.thr (Or.inl rfl)
    have g2 := m_29n (i := h.mi sc (i + 1)) (p := h.mi sc (i + 2)) H1 (by rw [f7]; exact e21) (by rw [show h.thr.mi 283 7 = h.mi 283 7 from rfl, z7]; exact rng_n (by decide) (by by_cases z : h.mi sc (i + 1) < 0; exact Or.inl z; exact Or.inr z))
    obtain ⟨J, j7, j9, jm⟩ := in_cm I CQ.thr (Or.inl rfl) (MQw.t (x := 1))
    obtain ⟨tl', e⟩ := lx_51 (tl := tl) hl hi ks s1 s2 k2 s3 j7 (m_5 jm) z_1 (w_28_x0 k2 (m_165n G T e4)) g2 mi_ss
    exact ⟨tl', _, e, J⟩
  | true =>
    rw [hld, b2i_1] at e4 e21
    have nl : ¬ h.mi 200 4 = 0 := by rw [e4]; exact z_1
    obtain ⟨i0, pc, n, q, E, V, Jj, P, -⟩ := in_cur I hld
    have VN := V.1.2
    have PN := P.2.1
    have cna : h.mi b 5 = Int32.ofNat (pc) := V.1.1.2.1
    have bda : pc ≤ 10 := by omega
    have mea : h.mi 283 7 = Int32.ofNat (pc) := E.1.2.2.2.2.2.1.trans V.1.1.2.1
    by_cases ra : h.mi sc (i + 1) < 0 ∨ ¬ h.mi sc (i + 1) < h.mi b 5
    · skip
      obtain ⟨H1, s1, s2, s3, f7, f9, f3, -⟩ := in_g I Sa CQ.thr (Or.inl rfl)
      have g2 := m_29x (i := h.mi sc (i + 1)) (p := h.mi sc (i + 2)) H1 (by rw [f7, e21]; exact z_1) (by rw [show h.thr.mi 283 7 = h.mi 283 7 from rfl, mea]; exact rng_n (by omega) (by rw [← cna]; exact ra))
      obtain ⟨J, j7, j9, jm⟩ := in_cm I CQ.thr (Or.inl rfl) (MQw.t (x := 2))
      obtain ⟨tl', e⟩ := lx_51 (tl := tl) hl hi ks s1 s2 k2 s3 j7 (m_5 jm) two_0 (w_28_x1 k2 (m_165x G T nl ra)) g2 mi_ss
      exact ⟨tl', _, e, J⟩
    · skip
      have r0a : ¬ h.mi sc (i + 1) < 0 := fun z => ra (Or.inl z)
      have r1a : h.mi sc (i + 1) < h.mi b 5 := Classical.byContradiction fun z => ra (Or.inr z)
      have r2a := r1a
      rw [cna] at r2a
      obtain ⟨eia, ka, hka, eka⟩ := rng_y (by omega) r0a r2a
      rw [eka] at eia
      have r3a : Int32.ofNat ka < h.mi b 5 := by rw [← eka]; exact r1a
      obtain ⟨it, kb, it1, hkb, hit, it3, it9⟩ := V.2.2.2.2.2.1.1 ka hka
      have cnb : h.mi u 11 = Int32.ofNat X.ns := P.2.1.2.2.1
      have ekb : Int32.ofNat kb < h.mi u 11 := by
        rw [cnb]
        exact (i32_lt (by omega) (by omega)).mpr hkb
      have meb : h.mi 279 7 = Int32.ofNat X.ns := P.2.1.2.2.2.1
      obtain ⟨eib, -⟩ := rng_y (i := Int32.ofNat kb) (n := X.ns) (by omega) (fun z => by have := (i32_lt (a := kb) (b := 0) (by omega) (by decide)).mp z; omega) ((i32_lt (by omega) (by omega)).mpr hkb)
      obtain ⟨nb, nb1, nb2, nb3⟩ := (P.2.2.2.1 kb hkb).2.2.1
      have cnp : h.mi (u + 3 + kb) 1 = Int32.ofNat nb := by
        rw [show u + 3 + kb = u + (3 + kb) by omega]
        exact (P.2.2.2.1 kb hkb).1.trans nb3
      have mp : h.mi 283 (38 + ka) = Int32.ofNat it := (E.2.1 ka hka).trans hit
      have mk : h.mi 283 (288 + it) = Int32.ofNat kb := (E.2.2.2.2.2.1 it (by omega)).2.1.trans it9
      by_cases rp : h.mi sc (i + 2) < 0 ∨ ¬ h.mi sc (i + 2) < h.mi (u + 3 + kb) 1
      · skip
        obtain ⟨H1, s1, s2, s3, f7, f9, f3, -⟩ := in_g I Sa CQ.thr (Or.inl rfl)
        have g2 := (show dM PG 29 [.ref 277, .int (h.mi sc (i + 1)), .int (h.mi sc (i + 2))] h.thr = some (.inl (some (.int 0)), h.thr.si 277 0 2) by rw [eka]; exact m_29p (ix := ka) (it := it) (p := h.mi sc (i + 2)) (by omega) (by omega) H1 (by rw [f7, e21]; exact z_1) (by rw [show h.thr.mi 283 7 = h.mi 283 7 from rfl, mea]; exact eia) mp (by rw [show h.thr.mi 283 (288 + it) = h.mi 283 (288 + it) from rfl, mk]; have := m_166 (k := kb) (p := h.mi sc (i + 2)) (by omega) H1 (by rw [show h.thr.mi 279 7 = h.mi 279 7 from rfl, meb]; exact eib); rw [show h.thr.mi 279 (8 + kb) = h.mi 279 (8 + kb) from rfl, nb3, rng_n (by omega) (by rw [← cnp]; exact rp)] at this; exact this))
        obtain ⟨J, j7, j9, jm⟩ := in_cm I CQ.thr (Or.inl rfl) (MQw.t (x := 2))
        obtain ⟨tl', e⟩ := lx_51 (tl := tl) hl hi ks s1 s2 k2 s3 j7 (m_5 jm) two_0 (w_28_x1 k2 (by rw [eka]; exact m_165p (ix := ka) (it := it) (k := kb) (by omega) (by omega) (by omega) G U T nl r3a hit it9 ekb rp)) g2 mi_ss
        exact ⟨tl', _, e, J⟩
      · skip
        have r0p : ¬ h.mi sc (i + 2) < 0 := fun z => rp (Or.inl z)
        have r1p : h.mi sc (i + 2) < h.mi (u + 3 + kb) 1 := Classical.byContradiction fun z => rp (Or.inr z)
        have r2p := r1p
        rw [cnp] at r2p
        obtain ⟨eip, kp, hkp, ekp⟩ := rng_y (by omega) r0p r2p
        rw [ekp] at eip
        have r3p : Int32.ofNat kp < h.mi (u + 3 + kb) 1 := by rw [← ekp]; exact r1p
        obtain ⟨h1, rm⟩ := rem_y A M.1 I.2.2.2.2.2 hld
        have hub : u + 7 ≤ b := by
          have z := A.2.1.1.1
          have z2 := A.1.2.1
          omega
        obtain ⟨G1, U1, T1, E1, V1, J1, P1⟩ := rm_g hub rm E V Jj P
        have hu := I.1.2.1
        obtain ⟨E2, V2, J2, -⟩ := re_ok (k := kb) (p := kp) E1 V1 J1 hka (it := it) ((congrFun (rm.2.2.2.1 1 (by decide)) ka).trans hit) (by omega) hkb ((congrFun (rm.2.2.2.1 9 (by decide)) it).trans it9) (by omega)
        obtain ⟨Q, hQ⟩ : ∃ Q, gpA (tpF (rowsAt h1 b) ka pc) kb kp it = Q := ⟨_, rfl⟩
        rw [hQ] at E2 V2 J2
        have g1 := m_165y (ix := ka) (it := it) (k := kb) (p := kp) (pc := pc) (n := n) (m := X.cu.1) (by omega) hka (by omega) (by omega) (by omega) (by omega) (by omega) G U T nl r3a hit it9 ekb r3p rm.1 G1 T1 V1.1.1.2.1 hQ ((congrFun (rm.2.2.2.1 9 (by decide)) it).trans it9) V2.1.1.2.2.2.2.1 V2.1.1.2.2.1
        obtain ⟨-, -, lva⟩ := lv_v (S := h.mi 283) (ix := ka) (pc := pc) hka (by omega)
        have cEq : (putA (lvF (h.mi 283) ka pc) kb kp it (26 + 3 * kb + kp) < putA (lvF (h.mi 283) ka pc) kb kp it (10 + kb)) ↔ Q 6 (kb * 3 + kp) < Q 2 kb := by
          rw [E2.2.2.2.2.1 kb kp (by omega) (by omega), (E2.2.2.1 kb hkb).1]
        have hdu : h.mi 279 6 = Int32.ofNat X.du := P.2.2.2.2.1.1
        by_cases cQ : Q 6 (kb * 3 + kp) < Q 2 kb
        · rw [if_pos cQ] at g1
          obtain ⟨vv, hv⟩ : ∃ vv, vv = (-1 : Int32) := ⟨_, rfl⟩
          rw [← hv, ← eka, ← ekp] at g1
          obtain ⟨M1, H1, s1, s2, s3, fa, k90⟩ := in_w I Sa (rm_w (R := Q) rm) (Or.inr ⟨vv.toInt64, rfl⟩)
          obtain ⟨h1', hh1⟩ : ∃ h1', h1' = (h1.sb b (Q)).sl 290 0 vv.toInt64 := ⟨_, rfl⟩
          rw [← hh1] at M1 H1 s1 s2 s3 fa
          have f7 : h1'.mi 277 = h.mi 277 := fa 277 (by decide) (by decide)
          have f9 : h1'.mi 279 = h.mi 279 := fa 279 (by decide) (by decide)
          have f3 : h1'.mi 283 = h.mi 283 := fa 283 (by decide) (by decide)
          have nl1 : ¬ h1'.mi 277 21 = 0 := by rw [f7, e21]; exact z_1
          have h20 : h1'.mi 277 20 = Int32.ofNat X.nu := M1.2.1.2.2.2.2.2.2.1
          have g166 : dM PG 166 [.ref 277, .int (Int32.ofNat kb), .int (Int32.ofNat kp)] h1' = some (.inl (some (.int 1)), h1') := by
            have := m_166 (k := kb) (p := Int32.ofNat kp) (by omega) H1 (by rw [f9, meb]; exact eib)
            rw [f9, nb3, eip] at this
            exact this
          have g2 := m_29y (ix := ka) (it := it) (k := kb) (p := kp) (pc := pc) (n := n) (m := X.cu.1) (by omega) hka (by omega) (by omega) (by omega) (by omega) (by omega) hu H1 nl1 (by rw [f3, mea]; exact eia) (by rw [f3]; exact mea) (by rw [f3]; exact mp) (by rw [f3]; exact mk) g166 h20 (by rw [f3, lva 8 (by decide) (by decide)]; exact E.1.2.2.2.2.2.2.2.2.trans V.1.1.2.2.2.2.1) (by rw [f3, lva 9 (by decide) (by decide)]; exact E.1.2.2.2.2.2.2.2.1.trans V.1.1.2.2.1) (by rw [f3, lva (288 + it) (by omega) (by omega)]; exact mk)
          rw [f3, f9, hdu] at g2
          have pv : putV (lvF (h.mi 283) ka pc) kb kp it n = -1 := if_pos (cEq.mpr cQ)
          have pf : putF (Int32.ofNat X.du) (lvF (h.mi 283) ka pc) kb kp it n X.cu.1 = putA (lvF (h.mi 283) ka pc) kb kp it := if_pos (cEq.mpr cQ)
          rw [if_pos pv, pf, ← hv, ← eka, ← ekp] at g2
          have Zn : RS X.ns X.du X.cu.1 X.cu.2.1 Q (putA (lvF (h.mi 283) ka pc) kb kp it) := ⟨i0, pc - 1, n, q, E2, V2, J2⟩
          subst hh1
          obtain ⟨J, j7, j9, jm⟩ := in_rem I hld rm Zn (Nat.le_add_right _ _) (qr_of (by omega) (fun k => by rw [← hQ]; exact (gpA_34 (Or.inl rfl)).trans (tpF_34 (Or.inl rfl))) (fun k => by rw [← hQ]; exact (gpA_34 (Or.inr rfl)).trans (tpF_34 (Or.inr rfl)))) (Or.inr ⟨vv.toInt64, rfl⟩)
          obtain ⟨tl', e⟩ := lv_51 (tl := tl) hl hi ks s1 s2 k2 s3 j7 (m_5 jm) j9 (w_28 k2 k90 g1) g2 ch_0 sl_ml
          exact ⟨tl', _, e, J⟩
        · rw [if_neg cQ] at g1
          obtain ⟨vv, hv⟩ : ∃ vv, vv = exF (gclA Q kb kp n X.cu.1) n := ⟨_, rfl⟩
          rw [← hv, ← eka, ← ekp] at g1
          obtain ⟨M1, H1, s1, s2, s3, fa, k90⟩ := in_w I Sa (rm_w (R := gclA Q kb kp n X.cu.1) rm) (Or.inr ⟨vv.toInt64, rfl⟩)
          obtain ⟨h1', hh1⟩ : ∃ h1', h1' = (h1.sb b (gclA Q kb kp n X.cu.1)).sl 290 0 vv.toInt64 := ⟨_, rfl⟩
          rw [← hh1] at M1 H1 s1 s2 s3 fa
          have f7 : h1'.mi 277 = h.mi 277 := fa 277 (by decide) (by decide)
          have f9 : h1'.mi 279 = h.mi 279 := fa 279 (by decide) (by decide)
          have f3 : h1'.mi 283 = h.mi 283 := fa 283 (by decide) (by decide)
          have nl1 : ¬ h1'.mi 277 21 = 0 := by rw [f7, e21]; exact z_1
          have h20 : h1'.mi 277 20 = Int32.ofNat X.nu := M1.2.1.2.2.2.2.2.2.1
          have g166 : dM PG 166 [.ref 277, .int (Int32.ofNat kb), .int (Int32.ofNat kp)] h1' = some (.inl (some (.int 1)), h1') := by
            have := m_166 (k := kb) (p := Int32.ofNat kp) (by omega) H1 (by rw [f9, meb]; exact eib)
            rw [f9, nb3, eip] at this
            exact this
          have g2 := m_29y (ix := ka) (it := it) (k := kb) (p := kp) (pc := pc) (n := n) (m := X.cu.1) (by omega) hka (by omega) (by omega) (by omega) (by omega) (by omega) hu H1 nl1 (by rw [f3, mea]; exact eia) (by rw [f3]; exact mea) (by rw [f3]; exact mp) (by rw [f3]; exact mk) g166 h20 (by rw [f3, lva 8 (by decide) (by decide)]; exact E.1.2.2.2.2.2.2.2.2.trans V.1.1.2.2.2.2.1) (by rw [f3, lva 9 (by decide) (by decide)]; exact E.1.2.2.2.2.2.2.2.1.trans V.1.1.2.2.1) (by rw [f3, lva (288 + it) (by omega) (by omega)]; exact mk)
          rw [f3, f9, hdu] at g2
          have pv : putV (lvF (h.mi 283) ka pc) kb kp it n = Int32.ofNat n := if_neg (fun z => cQ (cEq.mp z))
          have pf : putF (Int32.ofNat X.du) (lvF (h.mi 283) ka pc) kb kp it n X.cu.1 = closeF (Int32.ofNat X.du) (putA (lvF (h.mi 283) ka pc) kb kp it) kb kp n X.cu.1 := if_neg (fun z => cQ (cEq.mp z))
          have E3 := cl_eq E2 V2.1.1.2.2.2.2.1 hkb (show kp < 3 by omega) (show n < 80 by omega) (show X.cu.1 ≤ 80 by omega) (by omega) (by omega)
          have Zn : RS X.ns X.du X.cu.1 X.cu.2.1 (gclA Q kb kp n X.cu.1) (closeF (Int32.ofNat X.du) (putA (lvF (h.mi 283) ka pc) kb kp it) kb kp n X.cu.1) := ⟨i0, pc - 1, n + 1, q, E3, cl_iv V2 (by omega) hkb (by omega) cQ, cl_J J2 E2 (by omega) (by omega) (by omega) (by omega)⟩
          rw [if_neg (by rw [pv]; exact oN_s (by omega)), pf, ← q_ex E3 (Nat.lt_succ_self n), ← hv, ← eka, ← ekp] at g2
          subst hh1
          obtain ⟨J, j7, j9, jm⟩ := in_rem I hld rm Zn (Nat.le_add_right _ _) (qr_of (by omega) (fun k => by rw [gcl_34 (Or.inl rfl), ← hQ]; exact (gpA_34 (Or.inl rfl)).trans (tpF_34 (Or.inl rfl))) (fun k => by rw [gcl_34 (Or.inr rfl), ← hQ]; exact (gpA_34 (Or.inr rfl)).trans (tpF_34 (Or.inr rfl)))) (Or.inr ⟨vv.toInt64, rfl⟩)
          obtain ⟨tl', e⟩ := lv_51 (tl := tl) hl hi ks s1 s2 k2 s3 j7 (m_5 jm) j9 (w_28 k2 k90 g1) g2 ch_0 sl_ml
          exact ⟨tl', _, e, J⟩
theorem st_50 {h0 : Mm} {c sc len : Nat} (Sa : STA h0 sc len) : STP h0 sc len c 2720 := by
  intro i tl h hi hI
  obtain ⟨X, u, d, b, cc, v, cap, I⟩ := hI
  have I : IN6 h0 c X u d b cc v cap h := I
  obtain ⟨ks, hl, k2, e4, e21⟩ := in_f I Sa
  have A := I.2.1
  have M := I.2.2.1
  have G := A.1.1
  have U := A.1.2.2.1
  have T := A.1.2.2.2.2.1
  cases hld : X.ld with
  | false =>
    rw [hld, b2i_0] at e4 e21
    have z7 : h.mi 279 7 = Int32.ofNat 0 := (M.2.2.2.2.2.2 hld).2 7
    obtain ⟨H1, s1, s2, s3, f7, f9, f3, -⟩ := in_g I Sa CQ.thr (Or.inl rfl)
    have g2 := m_31n (k := h.mi sc (i + 1)) (p := h.mi sc (i + 2)) H1 (by rw [f7]; exact e21) (m_166k H1 (by rw [show h.thr.mi 279 7 = h.mi 279 7 from rfl, z7]; exact rng_n (by decide) (by by_cases z : h.mi sc (i + 1) < 0; exact Or.inl z; exact Or.inr z)))
    obtain ⟨J, j7, j9, jm⟩ := in_cm I CQ.thr (Or.inl rfl) (MQw.t (x := 1))
    obtain ⟨tl', e⟩ := lx_50 (tl := tl) hl hi ks s1 s2 k2 s3 j7 (m_5 jm) z_1 (w_30_x0 k2 (m_169n G U e4)) g2 mi_ss
    exact ⟨tl', _, e, J⟩
  | true =>
    rw [hld, b2i_1] at e4 e21
    have nl : ¬ h.mi 200 4 = 0 := by rw [e4]; exact z_1
    obtain ⟨i0, pc, n, q, E, V, Jj, P, -⟩ := in_cur I hld
    have VN := V.1.2
    have PN := P.2.1
    have cna : h.mi u 11 = Int32.ofNat (X.ns) := P.2.1.2.2.1
    have bda : X.ns ≤ 4 := by omega
    have mea : h.mi 279 7 = Int32.ofNat (X.ns) := P.2.1.2.2.2.1
    by_cases ra : h.mi sc (i + 1) < 0 ∨ ¬ h.mi sc (i + 1) < h.mi u 11
    · skip
      obtain ⟨H1, s1, s2, s3, f7, f9, f3, -⟩ := in_g I Sa CQ.thr (Or.inl rfl)
      have g2 := m_31x (k := h.mi sc (i + 1)) (p := h.mi sc (i + 2)) H1 (by rw [f7, e21]; exact z_1) (m_166k H1 (by rw [show h.thr.mi 279 7 = h.mi 279 7 from rfl, mea]; exact rng_n (by omega) (by rw [← cna]; exact ra)))
      obtain ⟨J, j7, j9, jm⟩ := in_cm I CQ.thr (Or.inl rfl) (MQw.t (x := 2))
      obtain ⟨tl', e⟩ := lx_50 (tl := tl) hl hi ks s1 s2 k2 s3 j7 (m_5 jm) two_0 (w_30_x1 k2 (m_169x G U nl ra)) g2 mi_ss
      exact ⟨tl', _, e, J⟩
    · skip
      have r0a : ¬ h.mi sc (i + 1) < 0 := fun z => ra (Or.inl z)
      have r1a : h.mi sc (i + 1) < h.mi u 11 := Classical.byContradiction fun z => ra (Or.inr z)
      have r2a := r1a
      rw [cna] at r2a
      obtain ⟨eia, ka, hka, eka⟩ := rng_y (by omega) r0a r2a
      rw [eka] at eia
      have r3a : Int32.ofNat ka < h.mi u 11 := by rw [← eka]; exact r1a
      have nbx := (P.2.2.2.1 ka hka).2.2.1
      obtain ⟨nb, nb1, nb2, nb3⟩ := nbx
      have cnp : h.mi (u + 3 + ka) 1 = Int32.ofNat nb := by
        rw [show u + 3 + ka = u + (3 + ka) by omega]
        exact (P.2.2.2.1 ka hka).1.trans nb3
      by_cases rp : h.mi sc (i + 2) < 0 ∨ ¬ h.mi sc (i + 2) < h.mi (u + 3 + ka) 1
      · skip
        obtain ⟨H1, s1, s2, s3, f7, f9, f3, -⟩ := in_g I Sa CQ.thr (Or.inl rfl)
        have g2 := m_31x (k := h.mi sc (i + 1)) (p := h.mi sc (i + 2)) H1 (by rw [f7, e21]; exact z_1) (by rw [eka]; have := m_166 (k := ka) (p := h.mi sc (i + 2)) (by omega) H1 (by rw [show h.thr.mi 279 7 = h.mi 279 7 from rfl, mea]; exact eia); rw [show h.thr.mi 279 (8 + ka) = h.mi 279 (8 + ka) from rfl, nb3, rng_n (by omega) (by rw [← cnp]; exact rp)] at this; exact this)
        obtain ⟨J, j7, j9, jm⟩ := in_cm I CQ.thr (Or.inl rfl) (MQw.t (x := 2))
        obtain ⟨tl', e⟩ := lx_50 (tl := tl) hl hi ks s1 s2 k2 s3 j7 (m_5 jm) two_0 (w_30_x1 k2 (by rw [eka]; exact m_169p (k := ka) (by omega) G U nl r3a rp)) g2 mi_ss
        exact ⟨tl', _, e, J⟩
      · skip
        have r0p : ¬ h.mi sc (i + 2) < 0 := fun z => rp (Or.inl z)
        have r1p : h.mi sc (i + 2) < h.mi (u + 3 + ka) 1 := Classical.byContradiction fun z => rp (Or.inr z)
        have r2p := r1p
        rw [cnp] at r2p
        obtain ⟨eip, kp, hkp, ekp⟩ := rng_y (by omega) r0p r2p
        rw [ekp] at eip
        have r3p : Int32.ofNat kp < h.mi (u + 3 + ka) 1 := by rw [← ekp]; exact r1p
        have g166 : ∀ h1' : Mm, MO h1' → h1'.mi 279 = h.mi 279 → dM PG 166 [.ref 277, .int (Int32.ofNat ka), .int (Int32.ofNat kp)] h1' = some (.inl (some (.int 1)), h1') := fun h1' H1 e9 => by
          have := m_166 (k := ka) (p := Int32.ofNat kp) (by omega) H1 (by rw [e9, mea]; exact eia)
          rw [e9, nb3, eip] at this
          exact this
        have hal := al_lt (f := alF (rowsAt h b) ka) (d := pc)
        have h10 : 2 ^ pc ≤ 2 ^ 10 := Nat.pow_le_pow_right (by decide) (by omega)
        have bq := bs_eq E V hka (show kp < 3 by omega)
        have c265 : dM PG 265 [.ref b, .int (Int32.ofNat ka), .int (Int32.ofNat kp)] h = some (.inl (some (.int (oN (fl (msT (wvF (h.mi 283) pc ka) (h.mi 283 (26 + 3 * ka + kp)) (h.mi 283 (10 + ka))) (2 ^ pc - 1) 1 (none, 0)).1))), h) := by
          have := m_265 (b := b) (pc := pc) (k := ka) (p := kp) (al := alN (alF (rowsAt h b) ka) pc 0 0) (by omega) (by omega) (by omega) T (R := rowsAt h b) V.1.1.2.1 (fun j hj => (pool_it V hj).2.2) (by omega) (ps_al pc 0 0 (by omega))
          rw [sb_id, bq.1] at this
          exact this
        have mpc : h.mi 283 7 = Int32.ofNat pc := E.1.2.2.2.2.2.1.trans V.1.1.2.1
        have mpi : ∀ j, j < pc → inb (h.mi 283 (38 + j)) 80 = true := fun j hj => by
          rw [E.2.1 j hj]
          exact (pool_it V hj).2.2
        cases ho : (fl (msT (wvF (h.mi 283) pc ka) (h.mi 283 (26 + 3 * ka + kp)) (h.mi 283 (10 + ka))) (2 ^ pc - 1) 1 (none, 0)).1 with
        | none =>
          rw [ho] at c265
          obtain ⟨H1, s1, s2, s3, f7, f9, f3, -⟩ := in_g I Sa CQ.thr (Or.inl rfl)
          have g2 := (show dM PG 31 [.ref 277, .int (h.mi sc (i + 1)), .int (h.mi sc (i + 2))] h.thr = some (.inl (some (.int 0)), h.thr.si 277 0 3) by rw [eka, ekp]; exact m_31z (pc := pc) (k := ka) (p := kp) (by omega) (by omega) (by omega) H1 (by rw [f7, e21]; exact z_1) (g166 _ H1 rfl) mpc mpi ho)
          obtain ⟨J, j7, j9, jm⟩ := in_cm I CQ.thr (Or.inl rfl) (MQw.t (x := 3))
          obtain ⟨tl', e⟩ := lx_50 (tl := tl) hl hi ks s1 s2 k2 s3 j7 (m_5 jm) three_0 (w_30_x3 k2 (by rw [eka, ekp]; exact m_169z (k := ka) (p := kp) (by omega) (by omega) G U T nl r3a r3p c265)) g2 mi_ss
          exact ⟨tl', _, e, J⟩
        | some s =>
          rw [ho] at c265
          obtain ⟨h1, rm⟩ := rem_y A M.1 I.2.2.2.2.2 hld
          have hub : u + 7 ≤ b := by
            have z := A.2.1.1.1
            have z2 := A.1.2.1
            omega
          obtain ⟨G1, U1, T1, E1, V1, J1, P1⟩ := rm_g hub rm E V Jj P
          have hu := I.1.2.1
          have bq1 := (bs_eq E1 V1 hka (show kp < 3 by omega)).2 s ho
          obtain ⟨Q, TT, hQ, hT, q13, q70, t8, t9, n80, cQ, Zn, q14, pin⟩ := co_ok E1 V1 J1 hka (show kp < 3 by omega) bq1.2.1 bq1.2.2.1 bq1.2.2.2.1 bq1.2.2.2.2
          have r1 : dM PG 266 [.ref b, .int (Int32.ofNat s), .int (Int32.ofNat ka), .int (Int32.ofNat kp)] h1 = some (.inl none, h1.sb b (gclA Q ka kp n X.cu.1)) := by
            have := m_266 (b := b) (k := ka) (p := kp) (pc := pc) (n := n) (m := X.cu.1) (x := Int32.ofNat s) (by omega) (by omega) (by omega) n80 (by omega) T1 (R := rowsAt h1 b) V1.1.1.2.1 pin hQ q13 q70 cQ
            rw [sb_id] at this
            exact this
          have hs : s < 1024 := by
            have := bq1.2.2.1
            omega
          have g1 := m_169y (k := ka) (p := kp) (s := s) (by omega) (by omega) hs G U T nl r3a r3p c265 rm.1 G1 T1 r1
          rw [q14, show Int32.ofNat (n + 1) - 1 = Int32.ofNat n from i32_sub (b := 1) (by omega)] at g1
          obtain ⟨vv, hv⟩ : ∃ vv, vv = Int32.ofNat n := ⟨_, rfl⟩
          rw [← hv, ← eka, ← ekp] at g1
          obtain ⟨M1, H1, s1, s2, s3, fa, k90⟩ := in_w I Sa (rm_w (R := gclA Q ka kp n X.cu.1) rm) (Or.inr ⟨vv.toInt64, rfl⟩)
          obtain ⟨h1', hh1⟩ : ∃ h1', h1' = (h1.sb b (gclA Q ka kp n X.cu.1)).sl 290 0 vv.toInt64 := ⟨_, rfl⟩
          rw [← hh1] at M1 H1 s1 s2 s3 fa
          have f7 : h1'.mi 277 = h.mi 277 := fa 277 (by decide) (by decide)
          have f9 : h1'.mi 279 = h.mi 279 := fa 279 (by decide) (by decide)
          have f3 : h1'.mi 283 = h.mi 283 := fa 283 (by decide) (by decide)
          have nl1 : ¬ h1'.mi 277 21 = 0 := by rw [f7, e21]; exact z_1
          have h20 : h1'.mi 277 20 = Int32.ofNat X.nu := M1.2.1.2.2.2.2.2.2.1
          have g2 := m_31y (pc := pc) (k := ka) (p := kp) (s := s) (n := n) (m := X.cu.1) (by omega) (by omega) (by omega) hu n80 (by omega) hs H1 nl1 (g166 _ H1 f9) (by rw [f3]; exact mpc) (by rw [f3]; exact mpi) h20 (by rw [f3]; exact ho) (by rw [f3]; exact hT) t8 t9
          rw [f3, f9, show h.mi 279 6 = Int32.ofNat X.du from P.2.2.2.2.1.1, ← hv, ← eka, ← ekp] at g2
          subst hh1
          obtain ⟨J, j7, j9, jm⟩ := in_rem I hld rm Zn (Nat.le_add_right _ _) (qr_of (by omega) (fun k => by rw [gcl_34 (Or.inl rfl), ← hQ]; exact cg_34 (Or.inl rfl) _ _) (fun k => by rw [gcl_34 (Or.inr rfl), ← hQ]; exact cg_34 (Or.inr rfl) _ _)) (Or.inr ⟨vv.toInt64, rfl⟩)
          obtain ⟨tl', e⟩ := lv_50 (tl := tl) hl hi ks s1 s2 k2 s3 j7 (m_5 jm) j9 (w_30 k2 k90 g1) g2 ch_0 sl_ml
          exact ⟨tl', _, e, J⟩
