-- ===== calls: the texts =====
def WX.tt (X : WX) (t : Tt) : WX := (X.1, X.2.1, X.2.2.1, X.2.2.2.1, X.cu, X.sd, X.hi, t)
section TXS
variable {X : WX} {u d b c v cap : Nat} {h h' g : Mm} {t : Tt} {P : Nat → Int32} {n : Nat}
theorem tx_pre (A : CIw X u d b c v cap h) : (291 ≤ h.sz ∧ b + 19 ≤ h.sz ∧ u + 7 ≤ b ∧ (b + 19 ≤ 274 ∨ 274 < b) ∧ u + 7 ≤ 216) ∧ 200 ≤ v ∧ (v < b ∨ b + 19 ≤ v) ∧ (v < u ∨ u + 7 ≤ v) := by
  obtain ⟨⟨G, ud, Uu, Ud, Sb, Sc, Ss⟩, ⟨Bb, Bc, n1, n2, n3, hz⟩, -, -, -, -, -, ⟨TX, v1, v2⟩⟩ := A
  have bb := Bb.1
  have s3 := TX.2.2.1
  have o1 := st_out (a := v) Sb (by rw [s3]; exact fun z => by cases z) (by rw [s3]; exact fun z => by cases z) (by rw [s3]; exact fun z => by cases z) (fun n => by rw [s3]; exact fun z => by cases z)
  exact ⟨⟨hz, Bb.2, by omega, by omega, by omega⟩, by omega, o1, by omega⟩
theorem tx_nm (A : CIw X u d b c v cap h) (hl : X.ld = true) {k : Nat} (hk : k < X.ns) : nmO (X.nm k) ∧ ∃ p q, h.mr (u + 3 + k) 0 = some p ∧ STR h p q (X.nm k).1 (X.nm k).2 ∧ p < h.sz ∧ q < h.sz ∧ p ≠ 274 ∧ p ≠ v ∧ q ≠ 274 ∧ q ≠ v := by
  obtain ⟨⟨G, -⟩, -, -, -, L, -, -, ⟨TX, v1, v2⟩⟩ := A
  obtain ⟨-, -, N⟩ := L hl
  obtain ⟨nk, p, q, y1, y2, y3, y4⟩ := N k hk
  obtain ⟨kp, kq⟩ := nm_kd y2
  have s1 := TX.1
  have s3 := TX.2.2.1
  have n9 := nk.2.1
  refine ⟨nk, p, q, y1, y2, y3, y4, fun e => ?_, fun e => ?_, fun e => ?_, fun e => ?_⟩
  · rw [e, s1] at kp
    rcases kp with z | z
    · exact absurd (Sum.inl.inj (Option.some.inj z)) (by decide)
    · exact absurd (Sum.inl.inj (Option.some.inj z)) (by decide)
  · rw [e, s3] at kp
    rcases kp with z | z <;> cases z
  · rw [e, s1] at kq
    rcases kq with z | z <;> cases z
  · rw [e, s3] at kq
    rcases kq with z | z
    · injection z with z
      injection z with z
      injection z with z z2
      omega
    · cases z
theorem CIw_tx (A : CIw X u d b c v cap h) (T : Tx h h' v cap t) : (∃ v' cap', CIw (X.tt t) u d b c v' cap' h') ∧ CW h h' := by
  have A0 := A
  obtain ⟨⟨G, ud, Uu, Ud, Sb, Sc, Ss⟩, ⟨Bb, Bc, n1, n2, n3, hz⟩, ⟨H1, H2⟩, ⟨f1, f2, f3, f4, f5, f6, f7, f8⟩, L, V, Hj, ⟨TX, v1, v2⟩⟩ := A
  have T0 := T
  obtain ⟨v', cap', SB, hv, ⟨F1, F2, F3, F4, F5, F6, F7⟩⟩ := T
  have cb := SB.2.2.2.2.2.2.1
  have B4 : BK h 254 := ⟨Or.inl ⟨by decide, by decide⟩, by omega⟩
  have s3 := TX.2.2.1
  have ob : ∀ x, ST h x → (v < x ∨ x + 19 ≤ v) := fun x Sx => st_out (a := v) Sx (by rw [s3]; exact fun z => by cases z) (by rw [s3]; exact fun z => by cases z) (by rw [s3]; exact fun z => by cases z) (fun n => by rw [s3]; exact fun z => by cases z)
  have sto : ∀ x, ST h x → BK h x → ST h' x ∧ BK h' x ∧ ∀ o, o < 19 → h'.mi (x + o) = h.mi (x + o) := fun x Sx Bx => by
    have b1 := Bx.1
    have b2 := Bx.2
    have o := ob x Sx
    exact ⟨tx_st T0 b2 (by omega) Sx, ⟨b1, by omega⟩, fun o ho => F4 _ (by omega) (by omega) (by omega)⟩
  have m2 : h'.mi 200 = h.mi 200 := F4 200 (by omega) (by decide) (by omega)
  have m21 : h'.mi 201 = h.mi 201 := F4 201 (by omega) (by decide) (by omega)
  have r73 : h'.mr 273 = h.mr 273 := F3 273 (by omega) (by decide)
  have um : ∀ o, o < 7 → h'.mi (u + o) = h.mi (u + o) := fun o ho => F4 _ (by omega) (by omega) (by omega)
  refine ⟨⟨v', cap', ⟨tx_go T0 (by omega) G, ud, tx_su T0 (by omega) (by omega) Uu, tx_su T0 (by omega) (by omega) Ud, (sto b Sb Bb).1, (sto c Sc Bc).1, (sto 254 Ss B4).1⟩, ⟨(sto b Sb Bb).2.1, (sto c Sc Bc).2.1, n1, n2, n3, by omega⟩, ⟨fun j x hj e => ?_, fun j j' x hj hj' e e' => ?_⟩, ⟨by rw [m2]; exact f1, by rw [m21]; exact f2, by rw [m2]; exact f3, by rw [m2]; exact f4, by rw [m2]; exact f5, by rw [m2]; exact f6, by rw [m2]; exact f7, f8⟩, fun hl => ?_, fun hs => ?_, fun j hj => ?_, SB, by omega, by omega⟩, fun a ha => ⟨(F2 a (by omega)).1, F4 a (by omega) (by omega) (by omega), F3 a (by omega) (by omega)⟩, fun a x y => ⟨(F2 a (by omega)).1, F3 a (by omega) (by omega), F4 a (by omega) (by omega) (by omega), (F2 a (by omega)).2⟩, by omega, by omega⟩
  · rw [r73] at e
    obtain ⟨y1, y2, y3⟩ := H1 j x hj e
    exact ⟨(sto x y1 y2).1, (sto x y1 y2).2.1, y3⟩
  · rw [r73] at e e'
    exact H2 j j' x hj hj' e e'
  · obtain ⟨l1, l2, l3⟩ := L hl
    have n4 : X.ns ≤ 4 := l1.2.1.2.2.2.2.2.1
    refine ⟨PlR_of um l1, RSx_of (sto b Sb Bb).2.2 l2, fun k hk => ?_⟩
    have hk : k < X.ns := hk
    obtain ⟨nk, p, q, y1, y2, y3, y4, y5, y6, y7, y8⟩ := tx_nm A0 hl hk
    exact ⟨nk, p, q, by rw [F3 _ (by omega) (by omega)]; exact y1, tx_str T0 y2 y3 y4 y5 y6 y7 y8, by omega, by omega⟩
  · exact RSx_of (sto 254 Ss B4).2.2 (V hs)
  · obtain ⟨x, e, z⟩ := Hj j hj
    have hj : j < X.nu := hj
    obtain ⟨y1, y2, y3⟩ := H1 j x (by omega) e
    exact ⟨x, by rw [r73]; exact e, RSx_of (sto x y1 y2).2.2 z⟩
theorem MIw_tx (M : MIw X g) (R : PgR P n t) : MIw (X.tt t) ((g.si 277 0 0).pg P n) := by
  obtain ⟨M0, ⟨f1, f2, f3, f4, f5, f6, f7, f8⟩, L, V, Hj, P0, L0⟩ := M
  obtain ⟨rfl, Rr⟩ := R
  have no : ∀ a, a ≠ 277 → a ≠ 289 → ((g.si 277 0 0).pg P t.1).mi a = g.mi a := fun a a1 a2 => (pg_o a1 a2).trans (mi_sa a1)
  have nj : ∀ j, j ≠ 0 → j ≠ 26 → ((g.si 277 0 0).pg P t.1).mi 277 j = g.mi 277 j := fun j j0 j2 => ((mi_sk j2).trans (congrFun (mi_swo (by decide)) j)).trans (mi_sk j0)
  refine ⟨M0, ⟨(nj 2 (by decide) (by decide)).trans f1, by rw [no 278 (by decide) (by decide)]; exact f2, (nj 5 (by decide) (by decide)).trans f3, (nj 6 (by decide) (by decide)).trans f4, (nj 21 (by decide) (by decide)).trans f5, (nj 22 (by decide) (by decide)).trans f6, (nj 20 (by decide) (by decide)).trans f7, pg_n⟩, ?_, ?_, ?_, ?_, ?_⟩
  · rw [no 279 (by decide) (by decide), no 283 (by decide) (by decide)]
    exact L
  · rw [no 287 (by decide) (by decide)]
    exact V
  · rw [no 286 (by decide) (by decide)]
    exact Hj
  · rw [pg_p]
    exact ⟨rfl, Rr⟩
  · rw [no 279 (by decide) (by decide), no 283 (by decide) (by decide)]
    exact L0
theorem fr_tx : FrM g ((g.si 277 0 0).pg P n) := ((FrM.si (by decide) (by decide)).tr (FrM.sw (by decide) (by decide))).tr (FrM.si (by decide) (by decide))
theorem tx_00 : ((g.si 277 0 0).pg P n).mi 277 0 = 0 := ((mi_sk (by decide)).trans (congrFun (mi_swo (by decide)) 0)).trans mi_ss
theorem xo_tx {k : Nat} (xo : XOk k X) (ht : t.1 ≤ 300) : XOk (k + 1) (X.tt t) := by
  obtain ⟨a1, a2, a3, a4, a5, a6, a7, q⟩ := xok_s xo
  exact ⟨a1, a2, a3, a4, a5, a6, ht, q⟩
theorem lb_len {nm w wn e en : Nat} {nc cs : Nat → Nat} {ic : Option (Nat × Nat)} (h1 : nm ≤ 9) (h2 : wn ≤ 9) (h3 : en ≤ 9) (h4 : ∀ a m, ic = some (a, m) → m ≤ 9) : (lbT nm nc w wn e en ic (0, cs)).1 ≤ 300 := by
  unfold lbT
  cases ic with
  | none =>
    show 0 + nm + 1 + wn + 1 + en + 1 + 4 ≤ 300
    omega
  | some z =>
    obtain ⟨a, m⟩ := z
    have := h4 a m rfl
    show 0 + nm + 1 + wn + 1 + en + 1 + 3 + m ≤ 300
    omega
def rnD (x : Int32) : Nat × Nat := (cN x, dgN (cN x))
theorem rn_of {x : Int32} {e m : Nat} (h : x = Int32.ofNat e) (he : e < 10 ^ m) (h1 : 1 ≤ m) (h9 : m ≤ 9) : (x = Int32.ofNat (rnD x).1 ∧ num (rnD x).1 (rnD x).2) ∧ (rnD x).2 ≤ m := by
  have p9 : (10 : Nat) ^ 9 = 1000000000 := by decide
  have e9 : e < 10 ^ 9 := Nat.lt_of_lt_of_le he (Nat.pow_le_pow_right (by decide) h9)
  rw [p9] at e9
  have c : cN x = e := by rw [h]; exact cN_of (by omega)
  unfold rnD
  show (x = Int32.ofNat (cN x) ∧ num (cN x) (dgN (cN x))) ∧ dgN (cN x) ≤ m
  rw [c]
  exact ⟨⟨h, dg_ok e9, e9⟩, dgK_le (dg_ok e9) he h1⟩
theorem i64_3 {y : Nat} (hy : y < 2147483648) : (Int64.ofNat y).toInt32 = Int32.ofNat y := by
  apply Int32.toBitVec_inj.mp
  apply BitVec.eq_of_toNat_eq
  show ((BitVec.ofNat 64 y).signExtend 32).toNat = (BitVec.ofNat 32 y).toNat
  rw [BitVec.signExtend_eq_setWidth_of_le _ (by decide), BitVec.toNat_setWidth, BitVec.toNat_ofNat, BitVec.toNat_ofNat]
  omega
end TXS
theorem st_63 {h0 : Mm} {c sc len : Nat} (Sa : STA h0 sc len) : STP h0 sc len c 3453 := by
  intro i tl h hi hI
  obtain ⟨X, u, d, b, cc, v, cap, I⟩ := hI
  have I : IN6 h0 c X u d b cc v cap h := I
  obtain ⟨ks, hl, k2, e4, e21⟩ := in_f I Sa
  have A := I.2.1
  have M := I.2.2.1
  have G := A.1.1
  have TX := A.2.2.2.2.2.2.2.1
  have tb := I.1.2.2.2.2.2.2.1
  have m8 : h.mi 277 26 = Int32.ofNat X.tx.1 := M.2.1.2.2.2.2.2.2.2
  have P9 : PgR (h.mi 289) X.tx.1 X.tx := M.2.2.2.2.2.1
  by_cases r : h.mi sc (i + 1) < 0 ∨ ¬ h.mi sc (i + 1) < Int32.ofNat X.tx.1
  · obtain ⟨H1, s1, s2, s3, f7, f9, f3, -⟩ := in_g I Sa CQ.thr (Or.inl rfl)
    have g2 := m_4x (i := h.mi sc (i + 1)) H1 (by rw [f7, m8]; exact rng_n (by omega) r)
    obtain ⟨J, j7, j9, jm⟩ := in_cm I CQ.thr (Or.inl rfl) (MQw.t (x := 1))
    obtain ⟨tl', e⟩ := lx_63 (tl := tl) hl hi ks s1 s2 k2 s3 j7 (m_5 jm) z_1 (w_3_x1 k2 (m_135x G TX r)) g2 mi_ss
    exact ⟨tl', _, e, J⟩
  · obtain ⟨ei, k, hk, ek⟩ := rng_y (by omega) (fun z => r (Or.inl z)) (Classical.byContradiction fun z => r (Or.inr z))
    have g1 := m_135y G TX hk
    obtain ⟨vv, hv⟩ : ∃ vv, vv = Int32.ofNat (X.tx.2 k) := ⟨_, rfl⟩
    rw [← hv, ← ek] at g1
    obtain ⟨H1, s1, s2, s3, f7, f9, f3, k90⟩ := in_g I Sa CQ.rf (Or.inr ⟨vv.toInt64, rfl⟩)
    have g2 := m_4y (k := k) (by omega) H1 (by rw [f7, m8, ← ek]; exact ei)
    rw [show (h.sl 290 0 vv.toInt64).mi 289 k = vv from (P9.2 k hk).trans hv.symm, ← ek] at g2
    obtain ⟨J, j7, j9, jm⟩ := in_cm I CQ.rf (Or.inr ⟨vv.toInt64, rfl⟩) (MQw.t (x := 0))
    obtain ⟨tl', e⟩ := lv_63 (tl := tl) hl hi ks s1 s2 k2 s3 j7 (m_5 jm) j9 (w_3 k2 k90 g1) g2 mi_ss sl_ml
    exact ⟨tl', _, e, J⟩
theorem st_61 {h0 : Mm} {c sc len : Nat} (Sa : STA h0 sc len) : STP h0 sc len c 3353 := by
  intro i tl h hi hI
  obtain ⟨X, u, d, b, cc, v, cap, I⟩ := hI
  have I : IN6 h0 c X u d b cc v cap h := I
  obtain ⟨ks, hl, k2, e4, e21⟩ := in_f I Sa
  have A := I.2.1
  have M := I.2.2.1
  have G := A.1.1
  have U := A.1.2.2.1
  have T := A.1.2.2.2.2.1
  have TX := A.2.2.2.2.2.2.2.1
  cases hld : X.ld with
  | false =>
    rw [hld, b2i_0] at e4 e21
    obtain ⟨H1, s1, s2, s3, f7, f9, f3, -⟩ := in_g I Sa CQ.thr (Or.inl rfl)
    have g2 := m_9n (i := h.mi sc (i + 1)) H1 (by rw [f7]; exact e21)
    obtain ⟨J, j7, j9, jm⟩ := in_cm I CQ.thr (Or.inl rfl) (MQw.t (x := 1))
    obtain ⟨tl', e⟩ := lx_61 (tl := tl) hl hi ks s1 s2 k2 s3 j7 (m_5 jm) z_1 (w_8_x0 k2 (m_147n G T e4)) g2 mi_ss
    exact ⟨tl', _, e, J⟩
  | true =>
    rw [hld, b2i_1] at e4 e21
    have nl : ¬ h.mi 200 4 = 0 := by rw [e4]; exact z_1
    obtain ⟨i0, pc, n, q, E, V, Jj, P, tmb⟩ := in_cur I hld
    have VN := V.1.2
    have PN := P.2.1
    have cn : h.mi (b + 13) 0 = Int32.ofNat n := V.1.1.2.2.2.2.1
    have me : h.mi 283 8 = Int32.ofNat n := E.1.2.2.2.2.2.2.2.2.trans V.1.1.2.2.2.2.1
    by_cases r : h.mi sc (i + 1) < 0 ∨ ¬ h.mi sc (i + 1) < h.mi (b + 13) 0
    · obtain ⟨H1, s1, s2, s3, f7, f9, f3, -⟩ := in_g I Sa CQ.thr (Or.inl rfl)
      have g2 := m_9x (i := h.mi sc (i + 1)) H1 (by rw [f7, e21]; exact z_1) (by rw [f3, me]; exact rng_n (by omega) (by rw [← cn]; exact r))
      obtain ⟨J, j7, j9, jm⟩ := in_cm I CQ.thr (Or.inl rfl) (MQw.t (x := 2))
      obtain ⟨tl', e⟩ := lx_61 (tl := tl) hl hi ks s1 s2 k2 s3 j7 (m_5 jm) two_0 (w_8_x1 k2 (m_147x G T nl r)) g2 mi_ss
      exact ⟨tl', _, e, J⟩
    · have r0 : ¬ h.mi sc (i + 1) < 0 := fun z => r (Or.inl z)
      have r1 : h.mi sc (i + 1) < h.mi (b + 13) 0 := Classical.byContradiction fun z => r (Or.inr z)
      have r2 := r1
      rw [cn] at r2
      obtain ⟨ei, k, hk, ek⟩ := rng_y (by omega) r0 r2
      rw [ek] at ei
      obtain ⟨⟨kk, hkk, b14⟩, ⟨w, tg, b15, b16, t1, t2, t3, t4⟩, -, bi, bw⟩ := V.2.2.2.2.2.2.1 k hk
      obtain ⟨q14, q15, q16, -, -, q18⟩ := E.2.2.2.2.2.2.2 k hk
      have hex : exF (rowsAt h b) k = Int32.ofNat (w - tg) := by
        unfold exF
        rw [b15, b16, i32_sub t3]
      obtain ⟨ic, hic⟩ : ∃ ic : Option (Nat × Nat), (match ic with | none => h.mi (b + 18) k = -1 | some (i, n) => h.mi (b + 18) k = Int32.ofNat i ∧ dgK i n ∧ i < 1000000000) := by
        by_cases z : k < q
        · obtain ⟨t, ht, et⟩ := bi z
          exact ⟨some (t, dgN t), et, dg_ok (by omega), by omega⟩
        · exact ⟨none, bw (by omega)⟩
      obtain ⟨⟨hz, hbz, hub, hb, hu⟩, hv, hvb, hvu⟩ := tx_pre A
      obtain ⟨nk, p, qq, y1, y2, y3, y4, y5, y6, y7, y8⟩ := tx_nm A hld hkk
      have Z := I.2.2.2.1
      obtain ⟨h1, g1, T1⟩ := m_147y (k := k) (by omega) (by omega) hz hbz hb hu hv hvb hvu G U T (sm_dig Z Sa.2.1) (sm_wst Z Sa.2.2.1) TX nl (by rw [← ek]; exact r1) b14 b15 hex (dg_ok (v := w) (by omega)) (by omega) (dg_ok (v := w - tg) (by omega)) (by omega) y1 y2 nk.2.1 y3 y4 y5 y6 y7 y8 ic hic
      have tb : (lbT (X.nm kk).1 (X.nm kk).2 w (dgN w) (w - tg) (dgN (w - tg)) ic (0, X.tx.2)).1 ≤ 300 := lb_len nk.2.1 (dg_9 (by omega)) (dg_9 (by omega)) (fun a m e => by
        subst e
        exact dgK_10 hic.2.1 hic.2.2)
      obtain ⟨t, ht⟩ : ∃ t, t = lbT (X.nm kk).1 (X.nm kk).2 w (dgN w) (w - tg) (dgN (w - tg)) ic (0, X.tx.2) := ⟨_, rfl⟩
      rw [← ht] at g1 T1 tb
      rw [← ek] at g1
      obtain ⟨⟨v', cap', ci⟩, cw⟩ := CIw_tx A T1
      obtain ⟨vv, hvv⟩ : ∃ vv, vv = Int32.ofNat t.1 := ⟨_, rfl⟩
      rw [← hvv] at g1
      obtain ⟨M1, H1, s1, s2, s3, fa, k90⟩ := in_w I Sa cw (Or.inr ⟨vv.toInt64, rfl⟩)
      obtain ⟨h1', hh1⟩ : ∃ h1', h1' = h1.sl 290 0 vv.toInt64 := ⟨_, rfl⟩
      rw [← hh1] at M1 H1 s1 s2 s3 fa
      have f7 : h1'.mi 277 = h.mi 277 := fa 277 (by decide) (by decide)
      have f3 : h1'.mi 283 = h.mi 283 := fa 283 (by decide) (by decide)
      have nl1 : ¬ h1'.mi 277 21 = 0 := by rw [f7, e21]; exact z_1
      have sm1 : SM h0 h1' := fun a ha => by
        obtain ⟨z1, z2, z3⟩ := Z a ha
        obtain ⟨y1, y2, y3⟩ := cw.1 a ha
        rw [hh1]
        exact ⟨y1.trans z1, y2.trans z2, y3.trans z3⟩
      have lm : h1'.ml 281 kk = Int64.ofNat (pkN (X.nm kk)) := ((M1.2.2.1 hld).2.2 kk hkk).1
      obtain ⟨P9, nn, g2, R9⟩ := m_9y (k := k) (le := leN (X.nm kk)) (by omega) (show kk < 4 by omega) H1 (sm_wsm sm1 Sa.2.2.2.2.1) nl1 (by rw [f3, me]; exact ei) (by rw [f3]; exact q14.trans b14) (by rw [f3]; exact q15.trans b15) (by rw [f3]; exact q16.trans hex) (dg_ok (v := w) (by omega)) (by omega) (dg_ok (v := w - tg) (by omega)) (by omega) (by rw [lm]; exact lt5_ok nk) ic (by
        rw [f3]
        cases ic with
        | none => exact q18.trans hic
        | some z => exact ⟨q18.trans hic.1, hic.2⟩) X.tx.2
      rw [lb_eq nk, ← ht] at R9
      have nt : nn = t.1 := R9.1
      subst nt
      rw [← hvv, ← ek] at g2
      obtain ⟨J, j7, j9, jm⟩ := in_ch I cw ci (Or.inr ⟨vv.toInt64, hh1⟩) fr_tx (MIw_tx M1 R9) (xo_tx I.1 tb)
      have lml : ((h1'.si 277 0 0).pg P9 t.1).ml 290 0 = vv.toInt64 := by
        rw [hh1]
        exact sl_ml
      subst hh1
      obtain ⟨tl', e⟩ := lv_61 (tl := tl) hl hi ks s1 s2 k2 s3 j7 (m_5 jm) j9 (w_8 k2 k90 g1) g2 tx_00 lml
      exact ⟨tl', _, e, J⟩
theorem st_62 {h0 : Mm} {c sc len : Nat} (Sa : STA h0 sc len) (hc : c ≤ 600) : STP h0 sc len c 3409 := by
  intro i tl h hi hI
  obtain ⟨X, u, d, b, cc, v, cap, I⟩ := hI
  have I : IN6 h0 c X u d b cc v cap h := I
  obtain ⟨ks, hl, k2, e4, e21⟩ := in_f I Sa
  have A := I.2.1
  have M := I.2.2.1
  have G := A.1.1
  have U := A.1.2.2.1
  have T := A.1.2.2.2.2.1
  have TX := A.2.2.2.2.2.2.2.1
  cases hld : X.ld with
  | false =>
    rw [hld, b2i_0] at e4 e21
    obtain ⟨H1, s1, s2, s3, f7, f9, f3, -⟩ := in_g I Sa CQ.thr (Or.inl rfl)
    have g2 := m_7n H1 (by rw [f7]; exact e21)
    obtain ⟨J, j7, j9, jm⟩ := in_cm I CQ.thr (Or.inl rfl) (MQw.t (x := 1))
    obtain ⟨tl', e⟩ := lx_62 (tl := tl) hl hi ks s1 s2 k2 s3 j7 (m_5 jm) z_1 (w_6_x0 k2 (m_137n G e4)) g2 mi_ss
    exact ⟨tl', _, e, J⟩
  | true =>
    rw [hld, b2i_1] at e4 e21
    have nl : ¬ h.mi 200 4 = 0 := by rw [e4]; exact z_1
    obtain ⟨i0, pc, n, q, E, V, Jj, P, tmb⟩ := in_cur I hld
    have VN := V.1.2
    have PN := P.2.1
    have n4 : X.ns ≤ 4 := by omega
    have cn : h.mi (b + 13) 0 = Int32.ofNat n := V.1.1.2.2.2.2.1
    have me : h.mi 283 8 = Int32.ofNat n := E.1.2.2.2.2.2.2.2.2.trans V.1.1.2.2.2.2.1
    have m7 : h.mi 279 7 = Int32.ofNat X.ns := P.2.1.2.2.2.1
    have m2 : h.mi 283 = X.cu.2.2 := (M.2.2.1 hld).2.1
    have QC : QL (1000000 * (c + 1)) X.ns (h.mi 283) := by
      rw [m2]
      exact I.1.2.2.2.2.2.2.2.1 hld
    have QC := (ql_r n4 E).mp QC
    have p6 : h.mi u 6 = Int32.ofNat X.du := (P.1.1 6 (by decide)).trans P.2.2.2.2.1.1
    have pk : ∀ k, k < X.ns → h.mi (u + 3 + k) 2 = h.mi 279 (12 + k) ∧ ∃ pr, pr ≤ 99 ∧ h.mi (u + 3 + k) 2 = Int32.ofNat pr := fun k hk => by
      obtain ⟨-, p2, -, pr, p3, p4⟩ := P.2.2.2.1 k hk
      rw [Nat.add_assoc]
      exact ⟨p2, pr, p3, p2.trans p4⟩
    have erE : ∀ k, k < X.ns → erF (h.mi u 6) (h.mi (u + 3 + k) 2) (rowsAt h b) k n = emF (h.mi 279 (12 + k)) (h.mi 283) k n ∧ ∃ e, e ≤ 237600000 ∧ erF (h.mi u 6) (h.mi (u + 3 + k) 2) (rowsAt h b) k n = Int32.ofNat e := fun k hk => by
      obtain ⟨p1, pr, p2, p3⟩ := pk k hk
      refine ⟨?_, ?_⟩
      · rw [p1, p6]
        exact q_er E V
      · rw [p3]
        obtain ⟨e, e1, e2⟩ := er_nat (k := k) (d := h.mi u 6) V p2
        exact ⟨e, by omega, e2⟩
    obtain ⟨al, al1, al2, al3⟩ := ea_eq (du := h.mi u 6) (pc := fun k => h.mi (u + 3 + k) 2) (pm := fun k => h.mi 279 (12 + k)) (R := rowsAt h b) (S := h.mi 283) (n := n) n4 erE
    obtain ⟨⟨hz, hbz, hub, hb, hu⟩, hv, hvb, hvu⟩ := tx_pre A
    have Z := I.2.2.2.1
    obtain ⟨pp, qq, hK⟩ : ∃ pp qq : Nat → Nat, ∀ k, k < X.ns → h.mr (u + 3 + k) 0 = some (pp k) ∧ STR h (pp k) (qq k) (X.nm k).1 (X.nm k).2 ∧ pp k < h.sz ∧ qq k < h.sz ∧ pp k ≠ 274 ∧ pp k ≠ v ∧ qq k ≠ 274 ∧ qq k ≠ v := by
      refine ⟨fun k => (h.mr (u + 3 + k) 0).getD 0, fun k => (h.mr ((h.mr (u + 3 + k) 0).getD 0) 0).getD 0, fun k hk => ?_⟩
      obtain ⟨nk, p, q, y1, y2, y3⟩ := tx_nm A hld hk
      show h.mr (u + 3 + k) 0 = some ((h.mr (u + 3 + k) 0).getD 0) ∧ STR h ((h.mr (u + 3 + k) 0).getD 0) ((h.mr ((h.mr (u + 3 + k) 0).getD 0) 0).getD 0) (X.nm k).1 (X.nm k).2 ∧ (h.mr (u + 3 + k) 0).getD 0 < h.sz ∧ (h.mr ((h.mr (u + 3 + k) 0).getD 0) 0).getD 0 < h.sz ∧ (h.mr (u + 3 + k) 0).getD 0 ≠ 274 ∧ (h.mr (u + 3 + k) 0).getD 0 ≠ v ∧ (h.mr ((h.mr (u + 3 + k) 0).getD 0) 0).getD 0 ≠ 274 ∧ (h.mr ((h.mr (u + 3 + k) 0).getD 0) 0).getD 0 ≠ v
      rw [y1, Option.getD_some, y2.1, Option.getD_some]
      exact ⟨rfl, y2, y3⟩
    have nmk : ∀ k, k < X.ns → nmO (X.nm k) := fun k hk => (tx_nm A hld hk).1
    obtain ⟨ct, hct⟩ : ∃ ct : Rn, ct = fun k => rnD (fl (cnO (rowsAt h b) (Int32.ofNat k)) n 0 0) := ⟨_, rfl⟩
    obtain ⟨tg, htg⟩ : ∃ tg : Rn, tg = fun k => rnD (h.mi (b + 2) k) := ⟨_, rfl⟩
    obtain ⟨ex, hxx⟩ : ∃ ex : Rn, ex = fun k => rnD (fl (exO (rowsAt h b) (Int32.ofNat k)) n 0 0) := ⟨_, rfl⟩
    obtain ⟨la, hla⟩ : ∃ la : Rn, la = fun k => rnD (h.mi (b + 4) k) := ⟨_, rfl⟩
    obtain ⟨qu, hqu⟩ : ∃ qu : Rn, qu = fun k => rnD (h.mi (b + 3) k) := ⟨_, rfl⟩
    obtain ⟨er, her⟩ : ∃ er : Rn, er = fun k => rnD (erF (h.mi u 6) (h.mi (u + 3 + k) 2) (rowsAt h b) k n) := ⟨_, rfl⟩
    have hN9 : ∀ k, k < X.ns → ((fl (cnO (rowsAt h b) (Int32.ofNat k)) n 0 0 = Int32.ofNat (ct k).1 ∧ num (ct k).1 (ct k).2) ∧ (h.mi (b + 2) k = Int32.ofNat (tg k).1 ∧ num (tg k).1 (tg k).2) ∧ (fl (exO (rowsAt h b) (Int32.ofNat k)) n 0 0 = Int32.ofNat (ex k).1 ∧ num (ex k).1 (ex k).2) ∧ (h.mi (b + 4) k = Int32.ofNat (la k).1 ∧ num (la k).1 (la k).2) ∧ (h.mi (b + 3) k = Int32.ofNat (qu k).1 ∧ num (qu k).1 (qu k).2) ∧ (erF (h.mi u 6) (h.mi (u + 3 + k) 2) (rowsAt h b) k n = Int32.ofNat (er k).1 ∧ num (er k).1 (er k).2)) ∧ rsL 9 (ct k).2 (tg k).2 (ex k).2 (la k).2 (qu k).2 (er k).2 ≤ 60 := fun k hk => by
      obtain ⟨e1, a1, b1, -⟩ := bx_nat (R := rowsAt h b) (n := n) (x := Int32.ofNat k)
      obtain ⟨e2, -, a2, b2⟩ := V.2.1.2 k hk
      obtain ⟨e3, a3, b3⟩ := ov_nat (x := Int32.ofNat k) V
      obtain ⟨e5, e4', b5, b4, l4, l5⟩ := QC k hk
      obtain ⟨-, e6, a6, b6⟩ := erE k hk
      obtain ⟨r1, s1⟩ := rn_of (m := 2) b1 (by omega) (by decide) (by decide)
      obtain ⟨r2, s2⟩ := rn_of (m := 5) b2 (by omega) (by decide) (by decide)
      obtain ⟨r3, s3⟩ := rn_of (m := 9) b3 (by omega) (by decide) (by decide)
      obtain ⟨r4, s4⟩ := rn_of (m := 9) b4 (by omega) (by decide) (by decide)
      obtain ⟨r5, s5⟩ := rn_of (m := 9) b5 (by omega) (by decide) (by decide)
      obtain ⟨r6, s6⟩ := rn_of (m := 9) b6 (by omega) (by decide) (by decide)
      rw [hct, htg, hxx, hla, hqu, her]
      refine ⟨⟨r1, r2, r3, r4, r5, r6⟩, ?_⟩
      show 9 + 1 + (rnD (fl (cnO (rowsAt h b) (Int32.ofNat k)) n 0 0)).2 + 1 + (rnD (h.mi (b + 2) k)).2 + 1 + (rnD (fl (exO (rowsAt h b) (Int32.ofNat k)) n 0 0)).2 + 1 + (rnD (h.mi (b + 4) k)).2 + 1 + (rnD (h.mi (b + 3) k)).2 + 1 + (rnD (erF (h.mi u 6) (h.mi (u + 3 + k) 2) (rowsAt h b) k n)).2 + 1 ≤ 60
      have s2 : (rnD (h.mi (b + 2) k)).2 ≤ 5 := s2
      have s4 : (rnD (h.mi (b + 4) k)).2 ≤ 9 := s4
      have s5 : (rnD (h.mi (b + 3) k)).2 ≤ 9 := s5
      omega
    have ls : ∀ k, k < X.ns → rsL (X.nm k).1 (ct k).2 (tg k).2 (ex k).2 (la k).2 (qu k).2 (er k).2 ≤ 60 := fun k hk => by
      have := (hN9 k hk).2
      have := (nmk k hk).2.1
      unfold rsL at *
      omega
    obtain ⟨h1, g1, T1⟩ := m_137y (n := n) (ns := X.ns) (al := al) (aln := dgN al) (cl := 0) (cln := dgN n) (nm := fun k => (X.nm k).1) (nc := fun k => (X.nm k).2) (ct := ct) (tg := tg) (ex := ex) (la := la) (qu := qu) (er := er) (pp := pp) (qq := qq) n4 (by omega) hz hbz hub hb hu hv hvb hvu G U T (sm_dig Z Sa.2.1) (sm_wst Z Sa.2.2.1) TX nl P.2.1.2.2.1 cn hK (fun k hk => ⟨(hN9 k hk).1.1, (hN9 k hk).1.2.1, (hN9 k hk).1.2.2.1, (hN9 k hk).1.2.2.2.1, (hN9 k hk).1.2.2.2.2.1, (hN9 k hk).1.2.2.2.2.2, ls k hk⟩) ⟨dg_ok (by omega), by omega⟩ al2 ⟨dg_ok (by omega), by omega⟩
    obtain ⟨t, ht⟩ : ∃ t, t = tN al (dgN al) (tC 32 (tN n (dgN n) (tS 4 (wC "all ") (fl (rsK (fun k => (X.nm k).1) (fun k => (X.nm k).2) ct tg ex la qu er) X.ns 0 (0, X.tx.2))))) := ⟨_, rfl⟩
    have tb : t.1 ≤ 300 := by
      have l1 := rs_len (nc := fun k => (X.nm k).2) (t := (0, X.tx.2)) X.ns ls
      have l2 := dg_9 (v := al) (by omega)
      have l3 := dg_9 (v := n) (by omega)
      rw [ht]
      generalize fl (rsK (fun k => (X.nm k).1) (fun k => (X.nm k).2) ct tg ex la qu er) X.ns 0 (0, X.tx.2) = t0 at l1 ⊢
      show t0.1 + 4 + dgN n + 1 + dgN al ≤ 300
      have l1 : t0.1 ≤ 0 + 60 * X.ns := l1
      omega
    rw [← ht] at g1 T1
    obtain ⟨⟨v', cap', ci⟩, cw⟩ := CIw_tx A T1
    obtain ⟨vv, hvv⟩ : ∃ vv, vv = Int32.ofNat t.1 := ⟨_, rfl⟩
    rw [← hvv] at g1
    obtain ⟨M1, H1, s1, s2, s3, fa, k90⟩ := in_w I Sa cw (Or.inr ⟨vv.toInt64, rfl⟩)
    obtain ⟨h1', hh1⟩ : ∃ h1', h1' = h1.sl 290 0 vv.toInt64 := ⟨_, rfl⟩
    rw [← hh1] at M1 H1 s1 s2 s3 fa
    have f7 : h1'.mi 277 = h.mi 277 := fa 277 (by decide) (by decide)
    have f9 : h1'.mi 279 = h.mi 279 := fa 279 (by decide) (by decide)
    have f3 : h1'.mi 283 = h.mi 283 := fa 283 (by decide) (by decide)
    have nl1 : ¬ h1'.mi 277 21 = 0 := by rw [f7, e21]; exact z_1
    have sm1 : SM h0 h1' := fun a ha => by
      obtain ⟨z1, z2, z3⟩ := Z a ha
      obtain ⟨y1, y2, y3⟩ := cw.1 a ha
      rw [hh1]
      exact ⟨y1.trans z1, y2.trans z2, y3.trans z3⟩
    have lm : ∀ k, k < X.ns → ∀ i, i < 9 → lt5 (h1'.ml 281 k) i = Int32.ofNat (leN (X.nm k) i) ∧ leN (X.nm k) i < 32 := fun k hk => by
      rw [((M1.2.2.1 hld).2.2 k hk).1]
      exact lt5_ok (nmk k hk)
    have al4 : (fl (eaM (fun k => h1'.mi 279 (12 + k)) (h1'.mi 283) n) X.ns 0 0).toInt32 = Int32.ofNat al := by
      rw [f9, f3, al3]
      exact i64_3 (by omega)
    obtain ⟨P9, nn, g2, R9⟩ := m_7y (n := n) (nk := X.ns) (al := al) (aln := dgN al) (cln := dgN n) (le := fun k => leN (X.nm k)) (ct := ct) (tg := tg) (ex := ex) (la := la) (qu := qu) (er := er) n4 (by omega) H1 (sm_wsm sm1 Sa.2.2.2.2.1) nl1 (by rw [f9]; exact m7) (by rw [f3]; exact me) lm (fun k hk => by
      obtain ⟨⟨c1, c2, c3, c4, c5, c6⟩, c7⟩ := hN9 k hk
      rw [f3, f9]
      refine ⟨⟨?_, c1.2⟩, ⟨(E.2.2.1 k hk).1.trans c2.1, c2.2⟩, ⟨?_, c3.2⟩, ⟨(E.2.2.2.1 k (by omega)).1.trans c4.1, c4.2⟩, ⟨(E.2.2.1 k hk).2.trans c5.1, c5.2⟩, ⟨(erE k hk).1.symm.trans c6.1, c6.2⟩, c7⟩
      · rw [← q_bx E (oN_s (by omega)) (by omega)]
        exact c1.1
      · rw [← q_ov E (oN_s (by omega))]
        exact c3.1) ⟨dg_ok (by omega), by omega⟩ al4 ⟨dg_ok (by omega), by omega⟩ X.tx.2
    have eqt : tS 5 (wC ";all ") (fl (mrK (fun k => leN (X.nm k)) ct tg ex la qu er) X.ns 0 (0, X.tx.2)) = tS 4 (wC "all ") (fl (rsK (fun k => (X.nm k).1) (fun k => (X.nm k).2) ct tg ex la qu er) X.ns 0 (0, X.tx.2)) := by
      obtain ⟨m, em⟩ : ∃ m, X.ns = m + 1 := ⟨X.ns - 1, by omega⟩
      rw [em] at nmk ⊢
      rw [rs_eq (nm := X.nm) m nmk]
      exact all_eq
    rw [eqt, ← ht] at R9
    have nt : nn = t.1 := R9.1
    subst nt
    rw [← hvv] at g2
    obtain ⟨J, j7, j9, jm⟩ := in_ch I cw ci (Or.inr ⟨vv.toInt64, hh1⟩) fr_tx (MIw_tx M1 R9) (xo_tx I.1 tb)
    have lml : ((h1'.si 277 0 0).pg P9 t.1).ml 290 0 = vv.toInt64 := by
      rw [hh1]
      exact sl_ml
    subst hh1
    obtain ⟨tl', e⟩ := lv_62 (tl := tl) hl hi ks s1 s2 k2 s3 j7 (m_5 jm) j9 (w_6 k2 k90 g1) g2 tx_00 lml
    exact ⟨tl', _, e, J⟩
