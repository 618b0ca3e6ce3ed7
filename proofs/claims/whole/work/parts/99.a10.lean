-- ===== item lines: the method =====
section PAS
variable {h : Mm} {tk pr d c n : Nat} {T : Nat → Nat} {F P P' : Nat → Int32} {D R : Nat → Nat → Int32} {t : Tok}
theorem s_355 {q : Ps} (O : PO h tk pr d c) (X : TXT h n T) (W : WRD h) (hF : TK F n t) (hi' : tOk n t) (C : CRel q h P D R) (N : NMS h tk pr d c q.ns q.nm) : okR h tk pr d c n 0 (CRe h) (pIt T n q t) (dM PG 355 [.ref pr] (h.cp tk pr d c F P D R)) := by
  have J := O.1
  have k1 : h.kd tk = some (.inl 6) := O.2.1
  have k3 : h.kd pr = some (.inl 3) := O.2.2.2.2.1
  have r0 : h.mr pr 0 = some tk := O.2.2.2.2.2.1
  have rd : h.mr pr 1 = some d := O.2.2.2.2.2.2.1
  have rc : h.mr pr 2 = some c := O.2.2.2.2.2.2.2.1
  have U : SU h d := O.2.2.2.2.2.2.2.2.1
  have Sc : ST h c := O.2.2.2.2.2.2.2.2.2.1
  have kd := su_k U
  have kc := st_k Sc
  have f7 : R 7 0 = Int32.ofNat q.ni := C.2.2.1.1
  have ln : q.ni ≤ 60 := C.1.1.2.2.1
  have ls : q.ns ≤ 4 := C.1.1.2.1
  have f11 : D 0 11 = Int32.ofNat q.ns := C.1.2.2.2.1
  have f00 : D 0 0 = q.pl 0 := C.1.2.1.1 0 (by decide)
  unfold pIt
  by_cases cc : 60 ≤ q.ni
  · rw [if_pos cc]
    have z : ¬ Int32.ofNat q.ni < 60 := fun hc => by
      have := (i32_lt (a := q.ni) (b := 60) (by omega) (by decide)).mp hc
      omega
    have g := p_356 (P := P) (D := D) (R := R) O hF (code := 5)
    refine ⟨h, F, zu (zu P 4 5) 5 (Int32.ofNat t.1), D, R, ?_, EXT.rf, by rw [zu_o (by decide), zu_same]; rfl, zu_same⟩
    rw [dM_of (Nat.le_of_ble_eq_true rfl)]
    simp -implicitDefEqProofs only [D_355_0, k_355_0, D_355_21, k_355_21, k_355_45, D_355_70, k_355_70, D_355_88, k_355_88, k_355_94, k_355_122, D_355_147, k_355_147, D_355_166, k_355_166, R_355, v_aload_n, g_getfield, sv_o, rf_s, g_getfieldS, sv_i, g_bipush, g_icmp_lt, g_iconst, v_callV2, aft_v, aft_n, g_ireturn, g_put_i, v_callV1, g_istore_n, v_iload_n, g_if_eq, g_getstatic, v_iinc, g_goto, g_if_ne, v_callV3, entL, getL, setL, kL_i, kL_r, isI_s, isR_s, isJ_s, gV_s, iV_i, cs0, cs1, cs2, cs3, cs4, dn_nil, kd_si, kd_sl, kd_sw, mr_si, mr_sl, mr_sw, ml_si, ml_sw, mi_sl, cp_k, cp_r, k3, kc, rc, st_r12 Sc, st_ki Sc, cpc_7 J, f7, ↓if_neg z, if_neg z, g, rX_0]
  · rw [if_neg cc]
    have z : Int32.ofNat q.ni < 60 := i32_lt_lit (b := 60) (by decide) (by omega)
    obtain ⟨F0, g0, K0⟩ := p_326 (P := zu (zu P 7 0) 8 0) (D := D) (R := R) O X hF hi'.1
    have o0 := tok_ok (T := T) hi'.1.2
    have y7 : zu (zu P 7 0) 8 0 7 = Int32.ofNat 0 := by
      rw [zu_o (by decide), zu_same]
      rfl
    have y8 : zu (zu P 7 0) 8 0 8 = Int32.ofNat 0 := by
      rw [zu_same]
      rfl
    have g1 := s_372 (P := zu (zu P 7 0) 8 0) (D := D) (R := R) (x := (0, 0)) O X K0 o0 y7 y8
    cases e1 : pSm T n (0, 0) (tok T n t.2.1) with
    | inl y =>
      rw [e1] at g1
      rw [pB_l]
      obtain ⟨h', F', P', D', R', g3, E, q1, q2⟩ := g1
      have e5 : dB PG 355 45 (some (.ref pr) :: some (.int 0) :: some (.int 1) :: []) [] (h'.cp tk pr d c F' P' D' R') = some (.inl (some (.int 0)), h'.cp tk pr d c F' P' D' R') := by
        rw [D_355_45]
        simp -implicitDefEqProofs only [D_355_0, k_355_0, D_355_21, k_355_21, k_355_45, D_355_70, k_355_70, D_355_88, k_355_88, k_355_94, k_355_122, D_355_147, k_355_147, D_355_166, k_355_166, R_355, v_aload_n, g_getfield, sv_o, rf_s, g_getfieldS, sv_i, g_bipush, g_icmp_lt, g_iconst, v_callV2, aft_v, aft_n, g_ireturn, g_put_i, v_callV1, g_istore_n, v_iload_n, g_if_eq, g_getstatic, v_iinc, g_goto, g_if_ne, v_callV3, entL, getL, setL, kL_i, kL_r, isI_s, isR_s, isJ_s, gV_s, iV_i, cs0, cs1, cs2, cs3, cs4, dn_nil, kd_si, kd_sl, kd_sw, mr_si, mr_sl, mr_sw, ml_si, ml_sw, mi_sl, ↓if_true, if_true, rX_0]
      refine ⟨h', F', P', D', R', ?_, E, q1, q2⟩
      rw [dM_of (Nat.le_of_ble_eq_true rfl)]
      simp -implicitDefEqProofs only [D_355_0, k_355_0, D_355_21, k_355_21, k_355_45, D_355_70, k_355_70, D_355_88, k_355_88, k_355_94, k_355_122, D_355_147, k_355_147, D_355_166, k_355_166, R_355, v_aload_n, g_getfield, sv_o, rf_s, g_getfieldS, sv_i, g_bipush, g_icmp_lt, g_iconst, v_callV2, aft_v, aft_n, g_ireturn, g_put_i, v_callV1, g_istore_n, v_iload_n, g_if_eq, g_getstatic, v_iinc, g_goto, g_if_ne, v_callV3, entL, getL, setL, kL_i, kL_r, isI_s, isR_s, isJ_s, gV_s, iV_i, cs0, cs1, cs2, cs3, cs4, dn_nil, kd_si, kd_sl, kd_sw, mr_si, mr_sl, mr_sw, ml_si, ml_sw, mi_sl, cp_k, cp_r, k3, k1, kc, rc, r0, st_r12 Sc, st_ki Sc, cpc_7 J, f7, ↓if_pos z, if_pos z, cs_p J, g0, g3, e5]
    | inr a =>
      rw [e1] at g1
      rw [pB_r]
      obtain ⟨h', F1, P1, D', R', g3, -, K1, o1, eh, eD, eR, m7, m8, m3, b1, b2, b3⟩ := g1
      rw [eh, eD, eR] at g3
      have e6 : dM PG 355 [.ref pr] (h.cp tk pr d c F P D R) = dB PG 355 45 (some (.ref pr) :: some (.int 1) :: some (.int 1) :: []) [] (h.cp tk pr d c F1 P1 D R) := by
        rw [dM_of (Nat.le_of_ble_eq_true rfl)]
        simp -implicitDefEqProofs only [D_355_0, k_355_0, D_355_21, k_355_21, k_355_45, D_355_70, k_355_70, D_355_88, k_355_88, k_355_94, k_355_122, D_355_147, k_355_147, D_355_166, k_355_166, R_355, v_aload_n, g_getfield, sv_o, rf_s, g_getfieldS, sv_i, g_bipush, g_icmp_lt, g_iconst, v_callV2, aft_v, aft_n, g_ireturn, g_put_i, v_callV1, g_istore_n, v_iload_n, g_if_eq, g_getstatic, v_iinc, g_goto, g_if_ne, v_callV3, entL, getL, setL, kL_i, kL_r, isI_s, isR_s, isJ_s, gV_s, iV_i, cs0, cs1, cs2, cs3, cs4, dn_nil, kd_si, kd_sl, kd_sw, mr_si, mr_sl, mr_sw, ml_si, ml_sw, mi_sl, cp_k, cp_r, k3, k1, kc, rc, r0, st_r12 Sc, st_ki Sc, cpc_7 J, f7, ↓if_pos z, if_pos z, cs_p J, g0, g3]
      have g4 : okP1 h tk pr d c n P1 D R a.1 2 (pSl T n 2 a) (dB PG 355 45 (some (.ref pr) :: some (.int 1) :: some (.int 1) :: []) [] (h.cp tk pr d c F1 P1 D R)) := l_355a O X W 2 1 a F1 P1 [] rfl K1 o1 m7 m8
      rw [e6]
      have m3' : kP P P1 := ⟨m3.1.trans ((zu_o (by decide)).trans (zu_o (by decide))), m3.2.1.trans ((zu_o (by decide)).trans (zu_o (by decide))), m3.2.2.trans ((zu_o (by decide)).trans (zu_o (by decide)))⟩
      cases e2 : pSl T n 2 a with
      | inl y =>
        rw [e2] at g4
        rw [pB_l]
        obtain ⟨x1, x2, x3, x4, x5, x6⟩ := g4
        exact ⟨x1, x2, x3, x4, x5, x6⟩
      | inr b =>
        rw [e2] at g4
        rw [pB_r]
        obtain ⟨F2, P2, s2, tl2, x1, K2, o2, u7, u8, u3, c1, c2, c3⟩ := g4
        rw [x1]
        have b2' : 0 + 1 ≤ a.1.2 := b2
        have b3' : a.1.2 ≤ 0 + 9999 := b3
        have hb : (1 : Int32) ≤ Int32.ofNat b.1.2 := (i32_le (a := 1) (b := b.1.2) (by decide) (by omega)).mpr (by omega)
        have hz := tw_ne (b := b.1.2) (by omega) (by omega)
        have g5 := m_255 (u := d) (a := Int32.ofNat b.1.1) hb hz (h := h.cp tk pr d c F2 P2 D R) U
        rw [cp_0 J, f00] at g5
        have g6 := p_256 (F := F2) (P := P2) (D := D) (R := R) O (i := q.ni) (by omega) (w := wfF (Int32.ofNat b.1.1) (Int32.ofNat b.1.2) (q.pl 0)) f7
        have e7 : dB PG 355 94 (some (.ref pr) :: some (.int 1) :: some (.int s2) :: tl2) [] (h.cp tk pr d c F2 P2 D R) = dB PG 355 122 (some (.ref pr) :: some (.int 1) :: some (.int (Int32.ofNat q.ni)) :: some (.int 0) :: tl2.tail) [] (h.cp tk pr d c F2 P2 D (awF R q.ni (wfF (Int32.ofNat b.1.1) (Int32.ofNat b.1.2) (q.pl 0)))) := by
          rw [D_355_94]
          simp -implicitDefEqProofs only [D_355_0, k_355_0, D_355_21, k_355_21, k_355_45, D_355_70, k_355_70, D_355_88, k_355_88, k_355_94, k_355_122, D_355_147, k_355_147, D_355_166, k_355_166, R_355, v_aload_n, g_getfield, sv_o, rf_s, g_getfieldS, sv_i, g_bipush, g_icmp_lt, g_iconst, v_callV2, aft_v, aft_n, g_ireturn, g_put_i, v_callV1, g_istore_n, v_iload_n, g_if_eq, g_getstatic, v_iinc, g_goto, g_if_ne, v_callV3, entL, getL, setL, kL_i, kL_r, isI_s, isR_s, isJ_s, gV_s, iV_i, cs0, cs1, cs2, cs3, cs4, dn_nil, kd_si, kd_sl, kd_sw, mr_si, mr_sl, mr_sw, ml_si, ml_sw, mi_sl, cp_k, cp_r, k3, kd, kc, rd, rc, st_r12 Sc, st_ki Sc, cp_p J, u7, u8, g5, g6, setL_0]
        rw [e7]
        have V0 : VR (awF R q.ni (wfF (Int32.ofNat b.1.1) (Int32.ofNat b.1.2) (q.pl 0))) q.ni (fun _ => 0) (awF R q.ni (wfF (Int32.ofNat b.1.1) (Int32.ofNat b.1.2) (q.pl 0))) := ⟨fun k hk => aw_v hk, fun _ _ _ => rfl⟩
        have g8 : okP3 h tk pr d c n P2 D (awF R q.ni (wfF (Int32.ofNat b.1.1) (Int32.ofNat b.1.2) (q.pl 0))) q.ni (pVl T n q.nm q.ns 5 ((0, fun _ => 0), b.2)) (dB PG 355 122 (some (.ref pr) :: some (.int 1) :: some (.int (Int32.ofNat q.ni)) :: some (.int 0) :: tl2.tail) [] (h.cp tk pr d c F2 P2 D (awF R q.ni (wfF (Int32.ofNat b.1.1) (Int32.ofNat b.1.2) (q.pl 0))))) := l_355b O X W ls (by omega) f11 N 5 0 (fun _ => 0) b.2 F2 P2 _ tl2.tail rfl K2 o2 V0
        cases e3 : pVl T n q.nm q.ns 5 ((0, fun _ => 0), b.2) with
        | inl y =>
          rw [e3] at g8
          rw [pB_l]
          obtain ⟨x1, x2, x3, x4, x5, x6, x7⟩ := g8
          exact ⟨h, x1, x2, x3, x4, x5, EXT.rf, x6, x7⟩
        | inr v =>
          rw [e3] at g8
          rw [pB_r]
          obtain ⟨F3, P3, R3, y1, K3, o3, z3, V3⟩ := g8
          exact ⟨h, F3, P3, D, _, y1, EXT.rf, K3, o3, crel_t C V3 (by omega) ((m3'.tr u3).tr z3), rfl⟩
end PAS
