-- ===== parseText: the whole =====
def pLs (T : Nat → Nat) (n : Nat) : Nat → Ps × Tok → PE (Ps × Tok)
  | 0, a => .inr a
  | k + 1, a => if a.2.2.2.1 = 4 then pB (pLn T n a.1 (tok T n a.2.2.1)) (pLs T n k) else .inr a
def pTx (T : Nat → Nat) (n : Nat) : PE Ps := pB (pGr T n (tok T n 0)) fun a => pB (pLs T n 1500 a) fun b => pEn b.1 b.2
theorem pGr_n {T : Nat → Nat} {n : Nat} {t : Tok} {b : Ps × Tok} (e : pGr T n t = .inr b) : b.1.ns = 0 := by
  unfold pGr at e
  obtain ⟨a1, -, e⟩ := pB_i e
  obtain ⟨a2, -, e⟩ := pB_i e
  obtain ⟨a3, -, e⟩ := pB_i e
  obtain ⟨a4, -, e⟩ := pB_i e
  obtain ⟨a5, -, e⟩ := pB_i e
  cases e
  rfl
theorem pEn_n {q q' : Ps} {t : Tok} (e : pEn q t = .inr q') : q' = q := by
  unfold pEn at e
  split at e
  · split at e
    · cases e
    · cases e
      rfl
  · cases e
section PAS
variable {h : Mm} {tk pr d c n : Nat} {T : Nat → Nat} {F P P' : Nat → Int32} {D R : Nat → Nat → Int32} {t : Tok}
theorem p_326z (O : PO h tk pr d c) (X : TXT h n T) (f1 : F 1 = Int32.ofNat n) (f3 : F 3 = Int32.ofNat 0) : ∃ F', dM PG 326 [.ref tk] (h.cp tk pr d c F P D R) = some (.inl none, h.cp tk pr d c F' P D R) ∧ TK F' n (tok T n 0) := by
  obtain ⟨F', g, K⟩ := m_326 (po_tko (F := F) (P := P) (D := D) (R := R) O X) (Nat.zero_le n) (by rw [cp_t]; exact f1) (by rw [cp_t]; exact f3)
  rw [cw_t] at g
  exact ⟨F', g, K⟩
/-- the text's outcome -/
def okP5 (h : Mm) (tk pr d c ns : Nat) (x : PE Ps) (o : Option Rs) : Prop := match x with
  | .inl e => ∃ h' F' P' D' R', o = some (.inl (some (.int 0)), h'.cp tk pr d c F' P' D' R') ∧ EXT d (5 - ns) h h' ∧ P' 4 = Int32.ofNat e.1 ∧ P' 5 = Int32.ofNat e.2
  | .inr q => ∃ h' F' P' D' R', o = some (.inl (some (.int 1)), h'.cp tk pr d c F' P' D' R') ∧ EXT d (q.ns - ns) h h' ∧ ns ≤ q.ns ∧ KQ tk pr d c q h' P' D' R'
theorem R_292 : PG.2.1 292 = (some .boolean) := rfl
theorem x_292e {h' : Mm} {s : Value} {tl : Lc} : dB PG 292 28 (some (.ref pr) :: some (.int 0) :: some s :: tl) [] (h'.cp tk pr d c F P D R) = some (.inl (some (.int 0)), h'.cp tk pr d c F P D R) := by
  rw [D_292_28]
  simp -implicitDefEqProofs only [D_292_0, k_292_0, k_292_28, D_292_68, k_292_68, D_292_83, k_292_83, D_292_84, k_292_84, R_292, v_aload_n, g_getfield, sv_o, rf_s, g_getfieldS, v_callV1, aft_v, aft_n, g_istore_n, g_iconst, v_iload_n, g_if_eq, g_sipush, g_icmp_ge, sv_i, g_icmp_ne, v_iinc, g_goto, g_ireturn, entL, getL, setL, kL_i, kL_r, isI_s, isR_s, isJ_s, gV_s, iV_i, cs0, cs1, cs2, cs3, cs4, dn_nil, kd_si, kd_sl, kd_sw, mr_si, mr_sl, mr_sw, ml_si, ml_sw, mi_sl, ↓if_true, if_true, rX_0]
theorem x_292 {q : Ps} {s : Value} {tl : Lc} (O : PO h tk pr d c) (hF : TK F n t) (hi' : tOk n t) (C : KQ tk pr d c q h P D R) : okP5 h tk pr d c q.ns (pEn q t) (dB PG 292 68 (some (.ref pr) :: some (.int 1) :: some s :: tl) [] (h.cp tk pr d c F P D R)) := by
  have k3 : h.kd pr = some (.inl 3) := O.2.2.2.2.1
  have g := s_329 (q := q) O hF hi' C.1
  cases e : pEn q t with
  | inl y =>
    rw [e] at g
    obtain ⟨P', g1, q1, q2⟩ := g
    refine ⟨h, F, P', D, R, ?_, EXT.rf, q1, q2⟩
    rw [D_292_68]
    simp -implicitDefEqProofs only [D_292_0, k_292_0, k_292_28, k_292_68, D_292_83, k_292_83, D_292_84, k_292_84, R_292, v_aload_n, g_getfield, sv_o, rf_s, g_getfieldS, v_callV1, aft_v, aft_n, g_istore_n, g_iconst, v_iload_n, g_if_eq, g_sipush, g_icmp_ge, sv_i, g_icmp_ne, v_iinc, g_goto, g_ireturn, entL, getL, setL, kL_i, kL_r, isI_s, isR_s, isJ_s, gV_s, iV_i, cs0, cs1, cs2, cs3, cs4, dn_nil, kd_si, kd_sl, kd_sw, mr_si, mr_sl, mr_sw, ml_si, ml_sw, mi_sl, cp_k, k3, ↓if_neg z_1, if_neg z_1, g1, ↓if_true, if_true, rX_0]
  | inr y =>
    rw [e] at g
    have g1 : dM PG 329 [.ref pr] (h.cp tk pr d c F P D R) = some (.inl (some (.int 1)), h.cp tk pr d c F P D R) := g
    rw [pEn_n e]
    refine ⟨h, F, P, D, R, ?_, EXT.rf, Nat.le_refl _, C⟩
    rw [D_292_68]
    simp -implicitDefEqProofs only [D_292_0, k_292_0, k_292_28, k_292_68, D_292_83, k_292_83, D_292_84, k_292_84, R_292, v_aload_n, g_getfield, sv_o, rf_s, g_getfieldS, v_callV1, aft_v, aft_n, g_istore_n, g_iconst, v_iload_n, g_if_eq, g_sipush, g_icmp_ge, sv_i, g_icmp_ne, v_iinc, g_goto, g_ireturn, entL, getL, setL, kL_i, kL_r, isI_s, isR_s, isJ_s, gV_s, iV_i, cs0, cs1, cs2, cs3, cs4, dn_nil, kd_si, kd_sl, kd_sw, mr_si, mr_sl, mr_sw, ml_si, ml_sw, mi_sl, cp_k, k3, ↓if_neg z_1, if_neg z_1, g1, rX_1]
theorem l_292 : ∀ (k s : Nat) (h : Mm) (a : Ps × Tok) (F P : Nat → Int32) (D R : Nat → Nat → Int32) (tl : Lc), s + k = 1500 → PO h tk pr d c → TXT h n T → WRD h → PZ h tk pr d c → TK F n a.2 → tOk n a.2 → KQ tk pr d c a.1 h P D R → okP5 h tk pr d c a.1.ns (pB (pLs T n k a) (fun b => pEn b.1 b.2)) (dB PG 292 28 (some (.ref pr) :: some (.int 1) :: some (.int (Int32.ofNat s)) :: tl) [] (h.cp tk pr d c F P D R)) := by
  intro k
  induction k with
  | zero =>
    intro s h a F P D R tl hs O X W Z hF hi' C
    have z : (1500 : Int32) ≤ Int32.ofNat s := (i32_le (a := 1500) (b := s) (by decide) (by omega)).mpr (by omega)
    have e : dB PG 292 28 (some (.ref pr) :: some (.int 1) :: some (.int (Int32.ofNat s)) :: tl) [] (h.cp tk pr d c F P D R) = dB PG 292 68 (some (.ref pr) :: some (.int 1) :: some (.int (Int32.ofNat s)) :: tl) [] (h.cp tk pr d c F P D R) := by
      rw [D_292_28]
      simp -implicitDefEqProofs only [D_292_0, k_292_0, k_292_28, k_292_68, D_292_83, k_292_83, D_292_84, k_292_84, R_292, v_aload_n, g_getfield, sv_o, rf_s, g_getfieldS, v_callV1, aft_v, aft_n, g_istore_n, g_iconst, v_iload_n, g_if_eq, g_sipush, g_icmp_ge, sv_i, g_icmp_ne, v_iinc, g_goto, g_ireturn, entL, getL, setL, kL_i, kL_r, isI_s, isR_s, isJ_s, gV_s, iV_i, cs0, cs1, cs2, cs3, cs4, dn_nil, kd_si, kd_sl, kd_sw, mr_si, mr_sl, mr_sw, ml_si, ml_sw, mi_sl, ↓if_neg z_1, if_neg z_1, ↓if_pos z, if_pos z]
    rw [e]
    exact x_292 O hF hi' C
  | succ k ih =>
    intro s h a F P D R tl hs O X W Z hF hi' C
    have z : ¬ (1500 : Int32) ≤ Int32.ofNat s := Int32.not_le.mpr (i32_lt_lit (b := 1500) (by decide) (by omega))
    have k1 : h.kd tk = some (.inl 6) := O.2.1
    have k3 : h.kd pr = some (.inl 3) := O.2.2.2.2.1
    have r0 : h.mr pr 0 = some tk := O.2.2.2.2.2.1
    have f4 := hF.2.2.2.1
    show okP5 h tk pr d c a.1.ns (pB (if a.2.2.2.1 = 4 then pB (pLn T n a.1 (tok T n a.2.2.1)) (pLs T n k) else .inr a) (fun b => pEn b.1 b.2)) _
    by_cases c4 : a.2.2.2.1 = 4
    · rw [if_pos c4]
      have e4 : Int32.ofNat a.2.2.2.1 = 4 := by
        rw [c4]
        rfl
      have s1 : Int32.ofNat (s) + 1 = Int32.ofNat (s + 1) := i32_add (b := 1)
      obtain ⟨F1, g1, K1⟩ := p_326 (P := P) (D := D) (R := R) O X hF hi'.1
      have o1 := tok_ok (T := T) hi'.1.2
      have g2 := s_328 (P := P) (D := D) (R := R) O X W K1 o1 C.1 C.2 Z
      cases e2 : pLn T n a.1 (tok T n a.2.2.1) with
      | inl y =>
        rw [e2] at g2
        rw [pB_l, pB_l]
        obtain ⟨h', F', P', D', R', g3, E, q1, q2⟩ := g2
        refine ⟨h', F', P', D', R', ?_, E, q1, q2⟩
        rw [D_292_28]
        simp -implicitDefEqProofs only [D_292_0, k_292_0, k_292_28, k_292_68, D_292_83, k_292_83, D_292_84, k_292_84, R_292, v_aload_n, g_getfield, sv_o, rf_s, g_getfieldS, v_callV1, aft_v, aft_n, g_istore_n, g_iconst, v_iload_n, g_if_eq, g_sipush, g_icmp_ge, sv_i, g_icmp_ne, v_iinc, g_goto, g_ireturn, entL, getL, setL, kL_i, kL_r, isI_s, isR_s, isJ_s, gV_s, iV_i, cs0, cs1, cs2, cs3, cs4, dn_nil, kd_si, kd_sl, kd_sw, mr_si, mr_sl, mr_sw, ml_si, ml_sw, mi_sl, cp_k, cp_r, cp_t, k3, k1, r0, f4, ↓if_neg z_1, if_neg z_1, ↓if_neg z, if_neg z, ↓if_pos e4, if_pos e4, g1, g3, s1, x_292e]
      | inr b =>
        rw [e2] at g2
        rw [pB_r]
        obtain ⟨h', F', P', D', R', g3, E, K3, o3, le, C3⟩ := g2
        have hd : 201 < d := O.2.2.2.2.2.2.2.2.2.2.1
        have Z4 := Z.2.2.2
        have g4 := ih (s + 1) h' b F' P' D' R' tl (by omega) (ext_po E Z O) (ext_txt E X (by omega)) (ext_wrd E W (by omega) (by omega)) (ext_pz E Z) K3 o3 C3
        have e6 : dB PG 292 28 (some (.ref pr) :: some (.int 1) :: some (.int (Int32.ofNat s)) :: tl) [] (h.cp tk pr d c F P D R) = dB PG 292 28 (some (.ref pr) :: some (.int 1) :: some (.int (Int32.ofNat (s + 1))) :: tl) [] (h'.cp tk pr d c F' P' D' R') := by
          rw [D_292_28]
          simp -implicitDefEqProofs only [D_292_0, k_292_0, k_292_28, k_292_68, D_292_83, k_292_83, D_292_84, k_292_84, R_292, v_aload_n, g_getfield, sv_o, rf_s, g_getfieldS, v_callV1, aft_v, aft_n, g_istore_n, g_iconst, v_iload_n, g_if_eq, g_sipush, g_icmp_ge, sv_i, g_icmp_ne, v_iinc, g_goto, g_ireturn, entL, getL, setL, kL_i, kL_r, isI_s, isR_s, isJ_s, gV_s, iV_i, cs0, cs1, cs2, cs3, cs4, dn_nil, kd_si, kd_sl, kd_sw, mr_si, mr_sl, mr_sw, ml_si, ml_sw, mi_sl, cp_k, cp_r, cp_t, k3, k1, r0, f4, ↓if_neg z_1, if_neg z_1, ↓if_neg z, if_neg z, ↓if_pos e4, if_pos e4, g1, g3, s1]
        rw [e6]
        have l4 : b.1.ns ≤ 4 := C3.1.1.1.2.1
        cases e7 : pB (pLs T n k b) (fun b => pEn b.1 b.2) with
        | inl y =>
          rw [e7] at g4
          obtain ⟨x1, x2, x3, x4, x5, x6, x7, x8, x9⟩ := g4
          exact ⟨x1, x2, x3, x4, x5, x6, EXT.up (by omega) (EXT.tr E x7), x8, x9⟩
        | inr y =>
          rw [e7] at g4
          obtain ⟨x1, x2, x3, x4, x5, x6, x7, x8, x9⟩ := g4
          exact ⟨x1, x2, x3, x4, x5, x6, EXT.up (by omega) (EXT.tr E x7), by omega, x9⟩
    · rw [if_neg c4, pB_r]
      have e4 : ¬ Int32.ofNat a.2.2.2.1 = 4 := by
        show ¬ Int32.ofNat a.2.2.2.1 = Int32.ofNat 4
        exact i32_ne (by have := hi'.2.2; omega) (by omega) c4
      have e : dB PG 292 28 (some (.ref pr) :: some (.int 1) :: some (.int (Int32.ofNat s)) :: tl) [] (h.cp tk pr d c F P D R) = dB PG 292 68 (some (.ref pr) :: some (.int 1) :: some (.int (Int32.ofNat s)) :: tl) [] (h.cp tk pr d c F P D R) := by
        rw [D_292_28]
        simp -implicitDefEqProofs only [D_292_0, k_292_0, k_292_28, k_292_68, D_292_83, k_292_83, D_292_84, k_292_84, R_292, v_aload_n, g_getfield, sv_o, rf_s, g_getfieldS, v_callV1, aft_v, aft_n, g_istore_n, g_iconst, v_iload_n, g_if_eq, g_sipush, g_icmp_ge, sv_i, g_icmp_ne, v_iinc, g_goto, g_ireturn, entL, getL, setL, kL_i, kL_r, isI_s, isR_s, isJ_s, gV_s, iV_i, cs0, cs1, cs2, cs3, cs4, dn_nil, kd_si, kd_sl, kd_sw, mr_si, mr_sl, mr_sw, ml_si, ml_sw, mi_sl, cp_k, cp_r, cp_t, k3, k1, r0, f4, ↓if_neg z_1, if_neg z_1, ↓if_neg z, if_neg z, ↓if_neg e4, if_neg e4]
      rw [e]
      exact x_292 O hF hi' C
theorem s_292 (O : PO h tk pr d c) (X : TXT h n T) (W : WRD h) (Z : PZ h tk pr d c) (f1 : F 1 = Int32.ofNat n) (f3 : F 3 = Int32.ofNat 0) (p3 : P 3 = 0 ∧ P 4 = 0 ∧ P 5 = -1) : okP5 h tk pr d c 0 (pTx T n) (dM PG 292 [.ref pr] (h.cp tk pr d c F P D R)) := by
  have k1 : h.kd tk = some (.inl 6) := O.2.1
  have k3 : h.kd pr = some (.inl 3) := O.2.2.2.2.1
  have r0 : h.mr pr 0 = some tk := O.2.2.2.2.2.1
  have rd : h.mr pr 1 = some d := O.2.2.2.2.2.2.1
  have rc : h.mr pr 2 = some c := O.2.2.2.2.2.2.2.1
  have U : SU h d := O.2.2.2.2.2.2.2.2.1
  have Sc : ST h c := O.2.2.2.2.2.2.2.2.2.1
  have kd := su_k U
  have kc := st_k Sc
  have g1 := p_324 (F := F) (P := P) (D := D) (R := R) O
  have g2 := p_325 (F := F) (P := P) (D := clD D) (R := R) O
  obtain ⟨F0, g3, K0⟩ := p_326z (P := P) (D := clD D) (R := clR R) O X f1 f3
  have o0 := tok_ok (T := T) (Nat.zero_le n)
  have g4 := s_327 (P := P) (D := clD D) (R := clR R) O X W K0 o0 (cl_ok p3)
  unfold pTx
  cases e : pGr T n (tok T n 0) with
  | inl y =>
    rw [e] at g4
    rw [pB_l]
    obtain ⟨h', F', P', D', R', g5, E, q1, q2⟩ := g4
    refine ⟨h', F', P', D', R', ?_, EXT.up (by decide) E, q1, q2⟩
    rw [dM_of (Nat.le_of_ble_eq_true rfl)]
    simp -implicitDefEqProofs only [D_292_0, k_292_0, k_292_28, k_292_68, D_292_83, k_292_83, D_292_84, k_292_84, R_292, v_aload_n, g_getfield, sv_o, rf_s, g_getfieldS, v_callV1, aft_v, aft_n, g_istore_n, g_iconst, v_iload_n, g_if_eq, g_sipush, g_icmp_ge, sv_i, g_icmp_ne, v_iinc, g_goto, g_ireturn, entL, getL, setL, kL_i, kL_r, isI_s, isR_s, isJ_s, gV_s, iV_i, cs0, cs1, cs2, cs3, cs4, dn_nil, kd_si, kd_sl, kd_sw, mr_si, mr_sl, mr_sw, ml_si, ml_sw, mi_sl, cp_k, cp_r, k3, k1, kd, kc, rd, rc, r0, g1, g2, g3, g5, x_292e]
  | inr b =>
    rw [e] at g4
    rw [pB_r]
    obtain ⟨h', F', P', D', R', g5, -, K1, o1, C1, eh⟩ := g4
    rw [eh] at g5 C1
    have n0 := pGr_n e
    have g6 := l_292 1500 0 h b F' P' D' R' [] rfl O X W Z K1 o1 ⟨C1, by rw [n0]; exact fun k hk => absurd hk (Nat.not_lt_zero _)⟩
    rw [n0] at g6
    have e6 : dM PG 292 [.ref pr] (h.cp tk pr d c F P D R) = dB PG 292 28 (some (.ref pr) :: some (.int 1) :: some (.int 0) :: []) [] (h.cp tk pr d c F' P' D' R') := by
      rw [dM_of (Nat.le_of_ble_eq_true rfl)]
      simp -implicitDefEqProofs only [D_292_0, k_292_0, k_292_28, k_292_68, D_292_83, k_292_83, D_292_84, k_292_84, R_292, v_aload_n, g_getfield, sv_o, rf_s, g_getfieldS, v_callV1, aft_v, aft_n, g_istore_n, g_iconst, v_iload_n, g_if_eq, g_sipush, g_icmp_ge, sv_i, g_icmp_ne, v_iinc, g_goto, g_ireturn, entL, getL, setL, kL_i, kL_r, isI_s, isR_s, isJ_s, gV_s, iV_i, cs0, cs1, cs2, cs3, cs4, dn_nil, kd_si, kd_sl, kd_sw, mr_si, mr_sl, mr_sw, ml_si, ml_sw, mi_sl, cp_k, cp_r, k3, k1, kd, kc, rd, rc, r0, g1, g2, g3, g5]
    rw [e6]
    exact g6
end PAS
