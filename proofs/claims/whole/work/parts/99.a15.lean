-- ===== species lines: a new name =====
section PAS
variable {h : Mm} {tk pr d c n : Nat} {T : Nat → Nat} {F P P' : Nat → Int32} {D R : Nat → Nat → Int32} {t : Tok}
theorem nm_new {G : Mm} {s l : Nat} {ch : Nat → Nat} {nm : Nat → Nat × (Nat → Nat)} (O : PO h tk pr d c) (Z : PZ h tk pr d c) (N : NMS h tk pr d c s nm) (hs : s < 4) (hl : l ≤ 9) (W : NW4 (h.cp tk pr d c F P D R) G l) (S : STR G (h.sz + 2) (h.sz + 3) l ch) : ∃ h1, G.sr (d + 3 + s) 0 (some (h.sz + 2)) = h1.cp tk pr d c F P D R ∧ EXT d 1 h h1 ∧ NMS h1 tk pr d c (s + 1) (zu nm s (l, ch)) := by
  have J := O.1
  have J' := J
  obtain ⟨j1, j2, j3, j4, j5, j6⟩ := J'
  have Z' := Z
  obtain ⟨z1, z2, z3, z4⟩ := Z'
  obtain ⟨w1, w2, w3, w4⟩ := W
  have w1 : G.sz = h.sz + 4 := w1
  have w2 : G.nc = h.nc + 4 := w2
  have w3 : G.ns = h.ns + (24 + l) := w3
  have w4 : ∀ a, a < h.sz → G.kd a = h.kd a ∧ G.ml a = h.ml a ∧ G.mi a = (h.cp tk pr d c F P D R).mi a ∧ G.mr a = h.mr a := w4
  have ok : ∀ a, h.sz ≤ a → OUT tk pr d c a := fun a ha => ⟨by omega, by omega, by omega, by omega⟩
  have E : EXT d 1 h (bkM (G.sr (d + 3 + s) 0 (some (h.sz + 2))) h tk pr d c) := by
    refine ⟨?_, ?_, ?_, ?_, fun a ha => ⟨(w4 a ha).1, (w4 a ha).2.1, bk_mi (F := F) (P := P) (D := D) (R := R) (w4 a ha).2.2.1⟩, fun a f ha hf => ?_⟩
    · show h.sz ≤ G.sz
      omega
    · show G.sz ≤ h.sz + 8 * 1
      omega
    · show G.ns ≤ h.ns + 64 * 1
      omega
    · show G.nc ≤ h.nc + 8 * 1
      omega
    · show zu2 G.mr (d + 3 + s) 0 (some (h.sz + 2)) a f = h.mr a f
      rw [z2_ne (by omega), (w4 a ha).2.2.2]
  refine ⟨bkM (G.sr (d + 3 + s) 0 (some (h.sz + 2))) h tk pr d c, (bk_cp (G := G.sr (d + 3 + s) 0 (some (h.sz + 2))) Z J (fun a ha => (w4 a ha).2.2.1)).symm, E, fun k hk => ?_⟩
  by_cases ek : k = s
  · rw [ek, zu_same]
    obtain ⟨s1, s2, s3, s4, s5⟩ := S
    refine ⟨h.sz + 2, h.sz + 3, z2_s, ⟨?_, ?_, s3, s4, fun k hk => ?_⟩, ok _ (by omega), ok _ (by omega), ?_, ?_⟩
    · show zu2 G.mr (d + 3 + s) 0 (some (h.sz + 2)) (h.sz + 2) 0 = _
      rw [z2_ne (by omega), s1]
    · have o := ok (h.sz + 2) (by omega)
      show ((G.sr (d + 3 + s) 0 (some (h.sz + 2))).cp tk pr d c (h.mi tk) (h.mi pr) (fun o => h.mi (d + o)) (fun o => h.mi (c + o))).mi (h.sz + 2) 1 = 0
      rw [cp_o o.1 o.2.1 o.2.2.1 o.2.2.2]
      exact s2
    · have o := ok (h.sz + 3) (by omega)
      show _ ∧ ((G.sr (d + 3 + s) 0 (some (h.sz + 2))).cp tk pr d c (h.mi tk) (h.mi pr) (fun o => h.mi (d + o)) (fun o => h.mi (c + o))).mi (h.sz + 3) k = _
      rw [cp_o o.1 o.2.1 o.2.2.1 o.2.2.2]
      exact s5 k hk
    · show h.sz + 2 < G.sz
      omega
    · show h.sz + 3 < G.sz
      omega
  · rw [zu_o ek]
    obtain ⟨p, q, n1, n2, n3, n4, n5, n6⟩ := N k (by omega)
    refine ⟨p, q, ?_, ext_str E n2 n5 n6 (by have := n3.2.2.1; omega), n3, n4, ?_, ?_⟩
    · show zu2 G.mr (d + 3 + s) 0 (some (h.sz + 2)) (d + 3 + k) 0 = _
      rw [z2_ne (by omega), (w4 _ (by omega)).2.2.2, n1]
    · show p < G.sz
      omega
    · show q < G.sz
      omega
theorem R_354 : PG.2.1 354 = (some .boolean) := rfl
theorem s_354 {q : Ps} (O : PO h tk pr d c) (X : TXT h n T) (W : WRD h) (hF : TK F n t) (hi' : tOk n t) (C : CRel q h P D R) (N : NMS h tk pr d c q.ns q.nm) (Z : PZ h tk pr d c) : okR h tk pr d c n 1 (fun q' h' P' D' R' => CRel q' h' P' D' R' ∧ NMS h' tk pr d c q'.ns q'.nm) (pSp T n q t) (dM PG 354 [.ref pr] (h.cp tk pr d c F P D R)) := by
  have J := O.1
  have k1 : h.kd tk = some (.inl 6) := O.2.1
  have k3 : h.kd pr = some (.inl 3) := O.2.2.2.2.1
  have r0 : h.mr pr 0 = some tk := O.2.2.2.2.2.1
  have rd : h.mr pr 1 = some d := O.2.2.2.2.2.2.1
  have rc : h.mr pr 2 = some c := O.2.2.2.2.2.2.2.1
  have U : SU h d := O.2.2.2.2.2.2.2.2.1
  have Sc : ST h c := O.2.2.2.2.2.2.2.2.2.1
  have kd := su_k U
  have kc := st_k Sc
  have f11 : D 0 11 = Int32.ofNat q.ns := C.1.2.2.2.1
  have ls : q.ns ≤ 4 := C.1.1.2.1
  unfold pSp
  by_cases cc : 4 ≤ q.ns
  · rw [if_pos cc]
    have z : ¬ Int32.ofNat q.ns < 4 := fun hc => by
      have := (i32_lt (a := q.ns) (b := 4) (by omega) (by decide)).mp hc
      omega
    have g := p_356 (P := P) (D := D) (R := R) O hF (code := 5)
    refine ⟨h, F, zu (zu P 4 5) 5 (Int32.ofNat t.1), D, R, ?_, EXT.rf, by rw [zu_o (by decide), zu_same]; rfl, zu_same⟩
    rw [dM_of (Nat.le_of_ble_eq_true rfl)]
    simp -implicitDefEqProofs only [D_354_0, k_354_0, D_354_19, k_354_19, D_354_39, k_354_39, D_354_53, k_354_53, D_354_96, k_354_96, D_354_124, k_354_124, D_354_151, k_354_151, D_354_174, k_354_174, R_354, v_aload_n, g_getfield, sv_o, rf_s, g_getfieldS, sv_i, g_istore_n, v_iload_n, g_iconst, g_icmp_lt, v_callV2, aft_v, aft_n, g_ireturn, v_callV1, g_if_ne, g_icmp_eq, g_astore_n, g_astore_nN, g_put_o, g_getstatic, g_sipush, v_callV4, sv_a, v_iastore, wrI_0, g_ldc, g_put_i, g_bipush, g_dup_i, g_dup_r, g_iadd, entL, getL, setL, kL_i, kL_r, isI_s, isR_s, isJ_s, gV_s, iV_i, cs0, cs1, cs2, cs3, cs4, dn_nil, kd_si, kd_sl, kd_sw, mr_si, mr_sl, mr_sw, ml_si, ml_sw, mi_sl, cp_k, cp_r, k3, kd, rd, cp_0 J, f11, ↓if_neg z, if_neg z, g, rX_0]
  · rw [if_neg cc]
    have z : Int32.ofNat q.ns < 4 := i32_lt_lit (b := 4) (by decide) (by omega)
    obtain ⟨F0, g0, K0⟩ := p_326 (P := P) (D := D) (R := R) O X hF hi'.1
    have o0 := tok_ok (T := T) hi'.1.2
    have ga := s_369 (P := P) (D := D) (R := R) O X W K0 o0
    have gb := s_370 (P := P) (D := D) (R := R) O X K0 o0 ls f11 N
    cases cn : pNa T (tok T n t.2.1) with
    | false =>
      rw [if_neg Bool.false_ne_true]
      rw [cn, b2i_0] at ga
      have gc := p_356 (P := P) (D := D) (R := R) O K0 (code := 1)
      refine ⟨h, F0, zu (zu P 4 1) 5 (Int32.ofNat (tok T n t.2.1).1), D, R, ?_, EXT.rf, by rw [zu_o (by decide), zu_same]; rfl, zu_same⟩
      rw [dM_of (Nat.le_of_ble_eq_true rfl)]
      simp -implicitDefEqProofs only [D_354_0, k_354_0, D_354_19, k_354_19, D_354_39, k_354_39, D_354_53, k_354_53, D_354_96, k_354_96, D_354_124, k_354_124, D_354_151, k_354_151, D_354_174, k_354_174, R_354, v_aload_n, g_getfield, sv_o, rf_s, g_getfieldS, sv_i, g_istore_n, v_iload_n, g_iconst, g_icmp_lt, v_callV2, aft_v, aft_n, g_ireturn, v_callV1, g_if_ne, g_icmp_eq, g_astore_n, g_astore_nN, g_put_o, g_getstatic, g_sipush, v_callV4, sv_a, v_iastore, wrI_0, g_ldc, g_put_i, g_bipush, g_dup_i, g_dup_r, g_iadd, entL, getL, setL, kL_i, kL_r, isI_s, isR_s, isJ_s, gV_s, iV_i, cs0, cs1, cs2, cs3, cs4, dn_nil, kd_si, kd_sl, kd_sw, mr_si, mr_sl, mr_sw, ml_si, ml_sw, mi_sl, cp_k, cp_r, k3, k1, kd, rd, r0, cp_0 J, f11, ↓if_pos z, if_pos z, g0, ga, ↓if_true, if_true, gc, rX_0]
    | true =>
      rw [if_pos rfl]
      rw [cn, b2i_1] at ga
      cases ck : pKi T q.nm q.ns (tok T n t.2.1) with
      | some k =>
        rw [ck] at gb
        have gb' : dM PG 370 [.ref pr] (h.cp tk pr d c F0 P D R) = some (.inl (some (.int (Int32.ofNat k))), h.cp tk pr d c F0 P D R) := gb
        have hk : k < 4 := by
          have := fnd_lt _ _ _ ck
          omega
        have zk : ¬ Int32.ofNat k = -1 := by
          have : k = 0 ∨ k = 1 ∨ k = 2 ∨ k = 3 := by omega
          rcases this with rfl | rfl | rfl | rfl <;> decide
        have gc := p_356 (P := P) (D := D) (R := R) O K0 (code := 4)
        refine ⟨h, F0, zu (zu P 4 4) 5 (Int32.ofNat (tok T n t.2.1).1), D, R, ?_, EXT.rf, by rw [zu_o (by decide), zu_same]; rfl, zu_same⟩
        rw [dM_of (Nat.le_of_ble_eq_true rfl)]
        simp -implicitDefEqProofs only [D_354_0, k_354_0, D_354_19, k_354_19, D_354_39, k_354_39, D_354_53, k_354_53, D_354_96, k_354_96, D_354_124, k_354_124, D_354_151, k_354_151, D_354_174, k_354_174, R_354, v_aload_n, g_getfield, sv_o, rf_s, g_getfieldS, sv_i, g_istore_n, v_iload_n, g_iconst, g_icmp_lt, v_callV2, aft_v, aft_n, g_ireturn, v_callV1, g_if_ne, g_icmp_eq, g_astore_n, g_astore_nN, g_put_o, g_getstatic, g_sipush, v_callV4, sv_a, v_iastore, wrI_0, g_ldc, g_put_i, g_bipush, g_dup_i, g_dup_r, g_iadd, entL, getL, setL, kL_i, kL_r, isI_s, isR_s, isJ_s, gV_s, iV_i, cs0, cs1, cs2, cs3, cs4, dn_nil, kd_si, kd_sl, kd_sw, mr_si, mr_sl, mr_sw, ml_si, ml_sw, mi_sl, cp_k, cp_r, k3, k1, kd, rd, r0, cp_0 J, f11, ↓if_pos z, if_pos z, g0, ga, ↓if_neg z_1, if_neg z_1, gb', ↓if_neg zk, if_neg zk, gc, rX_0]
      | none =>
        rw [ck] at gb
        have gb' : dM PG 370 [.ref pr] (h.cp tk pr d c F0 P D R) = some (.inl (some (.int (-1))), h.cp tk pr d c F0 P D R) := gb
        have cn' := cn
        unfold pNa at cn'
        rw [Bool.and_eq_true] at cn'
        obtain ⟨l9, lt⟩ := tok_w (of_decide_eq_true cn'.2)
        have Z' := Z
        obtain ⟨z1, z2, z3, z4⟩ := Z'
        have hd : 201 < d := O.2.2.2.2.2.2.2.2.2.2.1
        have dc := J.2.2.2.2.2
        obtain ⟨G, g5, W4, St⟩ := m_371 (M := h.cp tk pr d c F0 P D R) (po_tko O X) (by rw [cp_t]; exact K0) o0.1 (by show 202 ≤ h.sz; omega) z1 lt l9
        have g5' : dM PG 371 [.ref tk] (h.cp tk pr d c F0 P D R) = some (.inl (some (.ref (h.sz + 2))), G) := g5
        obtain ⟨hn, e0, E1, N1⟩ := nm_new O Z N (by omega) (by omega) W4 St
        have O1 := ext_po E1 Z O
        have X1 := ext_txt E1 X (by omega)
        have W1 := ext_wrd E1 W (by omega) (by omega)
        obtain ⟨Fa, g6, Ka⟩ := p_326 (P := P) (D := D) (R := R) O1 X1 K0 o0.1
        have oa := tok_ok (T := T) o0.1.2
        have m1 : hn.kd tk = some (.inl 6) := O1.2.1
        have m3 : hn.kd pr = some (.inl 3) := O1.2.2.2.2.1
        have n0 : hn.mr pr 0 = some tk := O1.2.2.2.2.2.1
        have nd : hn.mr pr 1 = some d := O1.2.2.2.2.2.2.1
        have nc : hn.mr pr 2 = some c := O1.2.2.2.2.2.2.2.1
        have U1 : SU hn d := O1.2.2.2.2.2.2.2.2.1
        have S1 : ST hn c := O1.2.2.2.2.2.2.2.2.2.1
        have md := su_k U1
        have mc := st_k S1
        have kk1 := su_kk (k := q.ns) (by omega) U1
        have kG : G.kd (d + 3 + q.ns) = some (.inl 2) := (W4.2.2.2 (d + 3 + q.ns) (by show d + 3 + q.ns < h.sz; omega)).1.trans (su_kk (k := q.ns) (by omega) U)
        have g7 := m_247 (u := d) (k := q.ns) (by omega) (h := h.cp tk pr d c F0 P D R) U
        obtain ⟨w84, -⟩ := W1.1 8 (by decide)
        obtain ⟨w85, -⟩ := W1.1 9 (by decide)
        obtain ⟨w86, -⟩ := W1.1 10 (by decide)
        obtain ⟨w87, -⟩ := W1.1 11 (by decide)
        have hs4 : q.ns < 4 := by omega
        have b_1 : inb (Int32.ofNat (q.ns)) 4 = true := inb_nat (by omega) (by decide)
        have n_1 : (Int32.ofNat (q.ns)).toNatClampNeg = q.ns := i32_nat (by omega)
        have s1 : Int32.ofNat (q.ns) + 1 = Int32.ofNat (q.ns + 1) := i32_add (b := 1)
        show okR h tk pr d c n 1 _ (pB (pNm T n 8 1 30000 (tok T n (tok T n t.2.1).2.1)) _) _
        have g1 : okN hn tk pr d c n P D R 1 30000 (pNm T n 8 1 30000 (tok T n (tok T n t.2.1).2.1)) (dM PG 350 [.ref pr, .ref 84, .int 1, .int 30000] (hn.cp tk pr d c Fa P D R)) := s_350 O1 X1 W1 Ka oa (by decide) (by decide) (by decide)
        cases e1 : pNm T n 8 1 30000 (tok T n (tok T n t.2.1).2.1) with
        | inl x =>
          rw [e1] at g1
          rw [pB_l]
          obtain ⟨F', P', g', q1, q2⟩ := g1
          refine ⟨hn, F', P', D, R, ?_, E1, q1, q2⟩
          rw [dM_of (Nat.le_of_ble_eq_true rfl)]
          simp -implicitDefEqProofs only [D_354_0, k_354_0, D_354_19, k_354_19, D_354_39, k_354_39, D_354_53, k_354_53, D_354_96, k_354_96, D_354_124, k_354_124, D_354_151, k_354_151, D_354_174, k_354_174, R_354, v_aload_n, g_getfield, sv_o, rf_s, g_getfieldS, sv_i, g_istore_n, v_iload_n, g_iconst, g_icmp_lt, v_callV2, aft_v, aft_n, g_ireturn, v_callV1, g_if_ne, g_icmp_eq, g_astore_n, g_astore_nN, g_put_o, g_getstatic, g_sipush, v_callV4, sv_a, v_iastore, wrI_0, g_ldc, g_put_i, g_bipush, g_dup_i, g_dup_r, g_iadd, entL, getL, setL, kL_i, kL_r, isI_s, isR_s, isJ_s, gV_s, iV_i, cs0, cs1, cs2, cs3, cs4, dn_nil, kd_si, kd_sl, kd_sw, mr_si, mr_sl, mr_sw, ml_si, ml_sw, mi_sl, cp_k, cp_r, k3, k1, kd, rd, r0, cp_0 J, f11, ↓if_pos z, if_pos z, g0, ga, gb', g7, g5', kG, e0, m1, m3, n0, nd, nc, md, mc, kk1, g6, w84, w85, w86, w87, cp_p J, st_r7 S1, st_r8 S1, st_k2 S1, st_k3 S1, csc_2 J, csc_3 J, cs_kk J hs4, cs_0 J, b_1, n_1, ↓if_neg z_1, if_neg z_1, ↓if_true, if_true, g', ↓if_true, if_true, rX_0]
        | inr a1 =>
          rw [e1] at g1
          rw [pB_r]
          obtain ⟨F1, P1, h1, K1, o1, v1, kp1, l1, u1⟩ := g1
          have g2 : okN hn tk pr d c n P1 D (zu2 R 2 q.ns (Int32.ofNat a1.1)) 0 999999 (pNm T n 9 0 999999 a1.2) (dM PG 350 [.ref pr, .ref 85, .int 0, .int 999999] (hn.cp tk pr d c F1 P1 D (zu2 R 2 q.ns (Int32.ofNat a1.1)))) := s_350 O1 X1 W1 K1 o1 (by decide) (by decide) (by decide)
          cases e2 : pNm T n 9 0 999999 a1.2 with
          | inl x =>
            rw [e2] at g2
            rw [pB_l]
            obtain ⟨F', P', g', q1, q2⟩ := g2
            refine ⟨hn, F', P', D, zu2 R 2 q.ns (Int32.ofNat a1.1), ?_, E1, q1, q2⟩
            rw [dM_of (Nat.le_of_ble_eq_true rfl)]
            simp -implicitDefEqProofs only [D_354_0, k_354_0, D_354_19, k_354_19, D_354_39, k_354_39, D_354_53, k_354_53, D_354_96, k_354_96, D_354_124, k_354_124, D_354_151, k_354_151, D_354_174, k_354_174, R_354, v_aload_n, g_getfield, sv_o, rf_s, g_getfieldS, sv_i, g_istore_n, v_iload_n, g_iconst, g_icmp_lt, v_callV2, aft_v, aft_n, g_ireturn, v_callV1, g_if_ne, g_icmp_eq, g_astore_n, g_astore_nN, g_put_o, g_getstatic, g_sipush, v_callV4, sv_a, v_iastore, wrI_0, g_ldc, g_put_i, g_bipush, g_dup_i, g_dup_r, g_iadd, entL, getL, setL, kL_i, kL_r, isI_s, isR_s, isJ_s, gV_s, iV_i, cs0, cs1, cs2, cs3, cs4, dn_nil, kd_si, kd_sl, kd_sw, mr_si, mr_sl, mr_sw, ml_si, ml_sw, mi_sl, cp_k, cp_r, k3, k1, kd, rd, r0, cp_0 J, f11, ↓if_pos z, if_pos z, g0, ga, gb', g7, g5', kG, e0, m1, m3, n0, nd, nc, md, mc, kk1, g6, w84, w85, w86, w87, cp_p J, st_r7 S1, st_r8 S1, st_k2 S1, st_k3 S1, csc_2 J, csc_3 J, cs_kk J hs4, cs_0 J, b_1, n_1, ↓if_neg z_1, if_neg z_1, ↓if_true, if_true, h1, v1, g', ↓if_true, if_true, rX_0]
          | inr a2 =>
            rw [e2] at g2
            rw [pB_r]
            obtain ⟨F2, P2, h2, K2, o2, v2, kp2, l2, u2⟩ := g2
            have g3 : okN hn tk pr d c n P2 D (zu2 (zu2 R 2 q.ns (Int32.ofNat a1.1)) 3 q.ns (Int32.ofNat a2.1)) 1 3 (pNm T n 10 1 3 a2.2) (dM PG 350 [.ref pr, .ref 86, .int 1, .int 3] (hn.cp tk pr d c F2 P2 D (zu2 (zu2 R 2 q.ns (Int32.ofNat a1.1)) 3 q.ns (Int32.ofNat a2.1)))) := s_350 O1 X1 W1 K2 o2 (by decide) (by decide) (by decide)
            cases e3 : pNm T n 10 1 3 a2.2 with
            | inl x =>
              rw [e3] at g3
              rw [pB_l]
              obtain ⟨F', P', g', q1, q2⟩ := g3
              refine ⟨hn, F', P', D, zu2 (zu2 R 2 q.ns (Int32.ofNat a1.1)) 3 q.ns (Int32.ofNat a2.1), ?_, E1, q1, q2⟩
              rw [dM_of (Nat.le_of_ble_eq_true rfl)]
              simp -implicitDefEqProofs only [D_354_0, k_354_0, D_354_19, k_354_19, D_354_39, k_354_39, D_354_53, k_354_53, D_354_96, k_354_96, D_354_124, k_354_124, D_354_151, k_354_151, D_354_174, k_354_174, R_354, v_aload_n, g_getfield, sv_o, rf_s, g_getfieldS, sv_i, g_istore_n, v_iload_n, g_iconst, g_icmp_lt, v_callV2, aft_v, aft_n, g_ireturn, v_callV1, g_if_ne, g_icmp_eq, g_astore_n, g_astore_nN, g_put_o, g_getstatic, g_sipush, v_callV4, sv_a, v_iastore, wrI_0, g_ldc, g_put_i, g_bipush, g_dup_i, g_dup_r, g_iadd, entL, getL, setL, kL_i, kL_r, isI_s, isR_s, isJ_s, gV_s, iV_i, cs0, cs1, cs2, cs3, cs4, dn_nil, kd_si, kd_sl, kd_sw, mr_si, mr_sl, mr_sw, ml_si, ml_sw, mi_sl, cp_k, cp_r, k3, k1, kd, rd, r0, cp_0 J, f11, ↓if_pos z, if_pos z, g0, ga, gb', g7, g5', kG, e0, m1, m3, n0, nd, nc, md, mc, kk1, g6, w84, w85, w86, w87, cp_p J, st_r7 S1, st_r8 S1, st_k2 S1, st_k3 S1, csc_2 J, csc_3 J, cs_kk J hs4, cs_0 J, b_1, n_1, ↓if_neg z_1, if_neg z_1, ↓if_true, if_true, h1, v1, h2, v2, g', ↓if_true, if_true, rX_0]
            | inr a3 =>
              rw [e3] at g3
              rw [pB_r]
              obtain ⟨F3, P3, h3, K3, o3, v3, kp3, l3, u3⟩ := g3
              have g4 : okN hn tk pr d c n P3 (zu2 D (3 + q.ns) 1 (Int32.ofNat a3.1)) (zu2 (zu2 R 2 q.ns (Int32.ofNat a1.1)) 3 q.ns (Int32.ofNat a2.1)) 0 99 (pNm T n 11 0 99 a3.2) (dM PG 350 [.ref pr, .ref 87, .int 0, .int 99] (hn.cp tk pr d c F3 P3 (zu2 D (3 + q.ns) 1 (Int32.ofNat a3.1)) (zu2 (zu2 R 2 q.ns (Int32.ofNat a1.1)) 3 q.ns (Int32.ofNat a2.1)))) := s_350 O1 X1 W1 K3 o3 (by decide) (by decide) (by decide)
              cases e4 : pNm T n 11 0 99 a3.2 with
              | inl x =>
                rw [e4] at g4
                rw [pB_l]
                obtain ⟨F', P', g', q1, q2⟩ := g4
                refine ⟨hn, F', P', zu2 D (3 + q.ns) 1 (Int32.ofNat a3.1), zu2 (zu2 R 2 q.ns (Int32.ofNat a1.1)) 3 q.ns (Int32.ofNat a2.1), ?_, E1, q1, q2⟩
                rw [dM_of (Nat.le_of_ble_eq_true rfl)]
                simp -implicitDefEqProofs only [D_354_0, k_354_0, D_354_19, k_354_19, D_354_39, k_354_39, D_354_53, k_354_53, D_354_96, k_354_96, D_354_124, k_354_124, D_354_151, k_354_151, D_354_174, k_354_174, R_354, v_aload_n, g_getfield, sv_o, rf_s, g_getfieldS, sv_i, g_istore_n, v_iload_n, g_iconst, g_icmp_lt, v_callV2, aft_v, aft_n, g_ireturn, v_callV1, g_if_ne, g_icmp_eq, g_astore_n, g_astore_nN, g_put_o, g_getstatic, g_sipush, v_callV4, sv_a, v_iastore, wrI_0, g_ldc, g_put_i, g_bipush, g_dup_i, g_dup_r, g_iadd, entL, getL, setL, kL_i, kL_r, isI_s, isR_s, isJ_s, gV_s, iV_i, cs0, cs1, cs2, cs3, cs4, dn_nil, kd_si, kd_sl, kd_sw, mr_si, mr_sl, mr_sw, ml_si, ml_sw, mi_sl, cp_k, cp_r, k3, k1, kd, rd, r0, cp_0 J, f11, ↓if_pos z, if_pos z, g0, ga, gb', g7, g5', kG, e0, m1, m3, n0, nd, nc, md, mc, kk1, g6, w84, w85, w86, w87, cp_p J, st_r7 S1, st_r8 S1, st_k2 S1, st_k3 S1, csc_2 J, csc_3 J, cs_kk J hs4, cs_0 J, b_1, n_1, ↓if_neg z_1, if_neg z_1, ↓if_true, if_true, h1, v1, h2, v2, h3, v3, g', ↓if_true, if_true, rX_0]
              | inr a4 =>
                rw [e4] at g4
                rw [pB_r]
                obtain ⟨F4, P4, h4, K4, o4, v4, kp4, l4, u4⟩ := g4
                have f11c : zu2 (zu2 D (3 + q.ns) 1 (Int32.ofNat a3.1)) (3 + q.ns) 2 (Int32.ofNat a4.1) 0 11 = Int32.ofNat q.ns := by
                  rw [z2_ne (by omega), z2_ne (by omega), f11]
                refine ⟨hn, F4, P4, zu2 (zu2 (zu2 D (3 + q.ns) 1 (Int32.ofNat a3.1)) (3 + q.ns) 2 (Int32.ofNat a4.1)) 0 11 (Int32.ofNat (q.ns + 1)), zu2 (zu2 R 2 q.ns (Int32.ofNat a1.1)) 3 q.ns (Int32.ofNat a2.1), ?_, E1, K4, o4, ?_⟩
                · skip
                  rw [dM_of (Nat.le_of_ble_eq_true rfl)]
                  simp -implicitDefEqProofs only [D_354_0, k_354_0, D_354_19, k_354_19, D_354_39, k_354_39, D_354_53, k_354_53, D_354_96, k_354_96, D_354_124, k_354_124, D_354_151, k_354_151, D_354_174, k_354_174, R_354, v_aload_n, g_getfield, sv_o, rf_s, g_getfieldS, sv_i, g_istore_n, v_iload_n, g_iconst, g_icmp_lt, v_callV2, aft_v, aft_n, g_ireturn, v_callV1, g_if_ne, g_icmp_eq, g_astore_n, g_astore_nN, g_put_o, g_getstatic, g_sipush, v_callV4, sv_a, v_iastore, wrI_0, g_ldc, g_put_i, g_bipush, g_dup_i, g_dup_r, g_iadd, entL, getL, setL, kL_i, kL_r, isI_s, isR_s, isJ_s, gV_s, iV_i, cs0, cs1, cs2, cs3, cs4, dn_nil, kd_si, kd_sl, kd_sw, mr_si, mr_sl, mr_sw, ml_si, ml_sw, mi_sl, cp_k, cp_r, k3, k1, kd, rd, r0, cp_0 J, f11, ↓if_pos z, if_pos z, g0, ga, gb', g7, g5', kG, e0, m1, m3, n0, nd, nc, md, mc, kk1, g6, w84, w85, w86, w87, cp_p J, st_r7 S1, st_r8 S1, st_k2 S1, st_k3 S1, csc_2 J, csc_3 J, cs_kk J hs4, cs_0 J, b_1, n_1, ↓if_neg z_1, if_neg z_1, ↓if_true, if_true, h1, v1, h2, v2, h3, v3, h4, v4, f11c, s1, rX_1]
                · exact ⟨crel_p C hs4 ((kP.of kp1).tr ((kP.of kp2).tr ((kP.of kp3).tr (kP.of kp4)))), N1⟩
end PAS
