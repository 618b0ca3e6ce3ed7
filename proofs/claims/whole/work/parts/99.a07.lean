-- ===== item lines =====
section PURE
variable (T : Nat → Nat) (n : Nat)
def pSm (x : Nat × Nat) (t : Tok) : PE ((Nat × Nat) × Tok) := pB (pNu T n 0 20000 t) fun a => pB (pNu T n 1 9999 a.2) fun b => .inr ((x.1 + a.1, x.2 + b.1), b.2)
def pSl : Nat → (Nat × Nat) × Tok → PE ((Nat × Nat) × Tok)
  | 0, a => if isK T a.2 13 = true then .inl (5, a.2.1) else .inr a
  | k + 1, a => if isK T a.2 13 = true then pB (pSm T n a.1 (tok T n a.2.2.1)) (pSl k) else .inr a
end PURE
section PAS
variable {h : Mm} {tk pr d c n : Nat} {T : Nat → Nat} {F P P' : Nat → Int32} {D R : Nat → Nat → Int32} {t : Tok}
theorem p_366n (O : PO h tk pr d c) (X : TXT h n T) (hF : TK F n t) (hi : tIn n t) {p q m : Nat} {ch : Nat → Nat} (S : STR h p q m ch) (hp : OUT tk pr d c p) (hq : OUT tk pr d c q) : dM PG 366 [.ref tk, .ref p] (h.cp tk pr d c F P D R) = some (.inl (some (.int (b2i (txB T t m ch)))), h.cp tk pr d c F P D R) := m_366 (po_tko O X) (by rw [cp_t]; exact hF) hi.1 hi.2 (cp_str3 S hp hq)
def oI (o : Option Nat) : Int32 := match o with
  | some k => Int32.ofNat k
  | none => -1
theorem R_370 : PG.2.1 370 = (some .int) := rfl
theorem s_370 (O : PO h tk pr d c) (X : TXT h n T) (hF : TK F n t) (hi' : tOk n t) {ns : Nat} {nm : Nat → Nat × (Nat → Nat)} (h4 : ns ≤ 4) (f11 : D 0 11 = Int32.ofNat ns) (N : NMS h tk pr d c ns nm) : dM PG 370 [.ref pr] (h.cp tk pr d c F P D R) = some (.inl (some (.int (oI (pKi T nm ns t)))), h.cp tk pr d c F P D R) := by
  have J := O.1
  have k3 : h.kd pr = some (.inl 3) := O.2.2.2.2.1
  have k1 : h.kd tk = some (.inl 6) := O.2.1
  have r0 : h.mr pr 0 = some tk := O.2.2.2.2.2.1
  have rd : h.mr pr 1 = some d := O.2.2.2.2.2.2.1
  have U : SU h d := O.2.2.2.2.2.2.2.2.1
  have kd := su_k U
  rw [dM_of (Nat.le_of_ble_eq_true rfl)]
  simp -implicitDefEqProofs only [D_370_0, k_370_0, g_iconst, g_istore_n, entL, getL, setL, kL_i, kL_r, isI_s, isR_s, isJ_s, gV_s, iV_i, cs0, cs1, cs2, cs3, cs4, dn_nil, kd_si, kd_sl, kd_sw, mr_si, mr_sl, mr_sw, ml_si, ml_sw, mi_sl, cp_k]
  have g := lf (P := PG) (y := 370) (pc := 2) (n := ns) (p := fun k => txB T t (nm k).1 (nm k).2) (h := h.cp tk pr d c F P D R) (L := fun i tl => some (.ref pr) :: some (.int (Int32.ofNat i)) :: tl) (r := fun o => some (.inl (some (.int (oI o))), h.cp tk pr d c F P D R)) (by
    intro i tl hi ci
    refine ⟨tl, ?_⟩
    have e : ¬ Int32.ofNat (ns) ≤ Int32.ofNat (i) := by rw [i32_le (by omega) (by omega)]; omega
    have s1 : Int32.ofNat (i) + 1 = Int32.ofNat (i + 1) := i32_add (b := 1)
    obtain ⟨p, q, n1, n2, n3, n4⟩ := N i hi
    have g := p_366n (P := P) (D := D) (R := R) O X hF hi'.1 n2 n3 n4.1
    rw [ci] at g
    have g7 := m_247 (u := d) (k := i) (by omega) (h := h.cp tk pr d c F P D R) U
    have kk := su_kk (k := i) (by omega) U
    rw [D_370_2]
    simp -implicitDefEqProofs only [D_370_0, k_370_0, k_370_2, D_370_36, k_370_36, D_370_42, k_370_42, R_370, g_iconst, g_istore_n, v_iload_n, v_aload_n, g_getfield, sv_o, rf_s, g_getfieldS, sv_i, g_icmp_ge, v_callV2, aft_v, aft_n, g_if_eq, g_ireturn, v_iinc, g_goto, entL, getL, setL, kL_i, kL_r, isI_s, isR_s, isJ_s, gV_s, iV_i, cs0, cs1, cs2, cs3, cs4, dn_nil, kd_si, kd_sl, kd_sw, mr_si, mr_sl, mr_sw, ml_si, ml_sw, mi_sl, cp_k, cp_r, k3, k1, kd, r0, rd, cp_0 J, f11, ↓if_neg e, if_neg e, g7, kk, n1, g, b2i_0, ↓if_true, if_true, s1]) (by
    intro i tl hi ci
    have e : ¬ Int32.ofNat (ns) ≤ Int32.ofNat (i) := by rw [i32_le (by omega) (by omega)]; omega
    obtain ⟨p, q, n1, n2, n3, n4⟩ := N i hi
    have g := p_366n (P := P) (D := D) (R := R) O X hF hi'.1 n2 n3 n4.1
    rw [ci] at g
    have g7 := m_247 (u := d) (k := i) (by omega) (h := h.cp tk pr d c F P D R) U
    have kk := su_kk (k := i) (by omega) U
    rw [D_370_2]
    simp -implicitDefEqProofs only [D_370_0, k_370_0, k_370_2, D_370_36, k_370_36, D_370_42, k_370_42, R_370, g_iconst, g_istore_n, v_iload_n, v_aload_n, g_getfield, sv_o, rf_s, g_getfieldS, sv_i, g_icmp_ge, v_callV2, aft_v, aft_n, g_if_eq, g_ireturn, v_iinc, g_goto, entL, getL, setL, kL_i, kL_r, isI_s, isR_s, isJ_s, gV_s, iV_i, cs0, cs1, cs2, cs3, cs4, dn_nil, kd_si, kd_sl, kd_sw, mr_si, mr_sl, mr_sw, ml_si, ml_sw, mi_sl, cp_k, cp_r, k3, k1, kd, r0, rd, cp_0 J, f11, ↓if_neg e, if_neg e, g7, kk, n1, g, b2i_1, ↓if_neg z_1, if_neg z_1, retX_int]
    rfl) (by
    intro tl
    have e : Int32.ofNat (ns) ≤ Int32.ofNat (ns) := by rw [i32_le (by omega) (by omega)]; omega
    rw [D_370_2]
    simp -implicitDefEqProofs only [D_370_0, k_370_0, k_370_2, D_370_36, k_370_36, D_370_42, k_370_42, R_370, g_iconst, g_istore_n, v_iload_n, v_aload_n, g_getfield, sv_o, rf_s, g_getfieldS, sv_i, g_icmp_ge, v_callV2, aft_v, aft_n, g_if_eq, g_ireturn, v_iinc, g_goto, entL, getL, setL, kL_i, kL_r, isI_s, isR_s, isJ_s, gV_s, iV_i, cs0, cs1, cs2, cs3, cs4, dn_nil, kd_si, kd_sl, kd_sw, mr_si, mr_sl, mr_sw, ml_si, ml_sw, mi_sl, cp_k, cp_r, k3, k1, kd, r0, rd, cp_0 J, f11, ↓if_pos e, if_pos e, retX_int]
    rfl) ns 0 [] (by omega)
  exact g
/-- a sample: sums -/
def KS (h : Mm) (P : Nat → Int32) (D R : Nat → Nat → Int32) (x0 x : Nat × Nat) (h' : Mm) (P' : Nat → Int32) (D' R' : Nat → Nat → Int32) : Prop := h' = h ∧ D' = D ∧ R' = R ∧ P' 7 = Int32.ofNat x.1 ∧ P' 8 = Int32.ofNat x.2 ∧ kP P P' ∧ x.1 ≤ x0.1 + 20000 ∧ x0.2 + 1 ≤ x.2 ∧ x.2 ≤ x0.2 + 9999
theorem R_372 : PG.2.1 372 = (some .boolean) := rfl
theorem s_372 (O : PO h tk pr d c) (X : TXT h n T) (hF : TK F n t) (hi' : tOk n t) {x : Nat × Nat} (f7 : P 7 = Int32.ofNat x.1) (f8 : P 8 = Int32.ofNat x.2) : okR h tk pr d c n 0 (KS h P D R x) (pSm T n x t) (dM PG 372 [.ref pr] (h.cp tk pr d c F P D R)) := by
  have J := O.1
  have k3 : h.kd pr = some (.inl 3) := O.2.2.2.2.1
  unfold pSm
  have g1 : okN h tk pr d c n P D R 0 20000 (pNu T n 0 20000 t) (dM PG 367 [.ref pr, .int 0, .int 20000] (h.cp tk pr d c F P D R)) := s_367 O X hF hi' (by decide) (by decide)
  cases e1 : pNu T n 0 20000 t with
  | inl x =>
    rw [e1] at g1
    rw [pB_l]
    obtain ⟨F', P', g', q1, q2⟩ := g1
    refine ⟨h, F', P', D, R, ?_, EXT.rf, q1, q2⟩
    rw [dM_of (Nat.le_of_ble_eq_true rfl)]
    simp -implicitDefEqProofs only [D_372_0, k_372_0, D_372_13, k_372_13, D_372_39, k_372_39, R_372, v_aload_n, g_iconst, g_sipush, v_callV3, aft_v, aft_n, g_if_ne, g_ireturn, g_dup_i, g_dup_r, g_getfield, sv_i, rf_s, g_getfieldS, g_iadd, g_put_i, entL, getL, setL, kL_i, kL_r, isI_s, isR_s, isJ_s, gV_s, iV_i, cs0, cs1, cs2, cs3, cs4, dn_nil, kd_si, kd_sl, kd_sw, mr_si, mr_sl, mr_sw, ml_si, ml_sw, mi_sl, cp_k, k3, g', ↓if_true, if_true, rX_0]
  | inr a1 =>
    rw [e1] at g1
    rw [pB_r]
    obtain ⟨F1, P1, h1, K1, o1, v1, kp1, l1, u1⟩ := g1
    have e7 : P1 7 = Int32.ofNat x.1 := (kp1 7 (by decide)).trans f7
    have g2 : okN h tk pr d c n (zu P1 7 (Int32.ofNat (x.1 + a1.1))) D R 1 9999 (pNu T n 1 9999 a1.2) (dM PG 367 [.ref pr, .int 1, .int 9999] (h.cp tk pr d c F1 (zu P1 7 (Int32.ofNat (x.1 + a1.1))) D R)) := s_367 O X K1 o1 (by decide) (by decide)
    cases e2 : pNu T n 1 9999 a1.2 with
    | inl x =>
      rw [e2] at g2
      rw [pB_l]
      obtain ⟨F', P', g', q1, q2⟩ := g2
      refine ⟨h, F', P', D, R, ?_, EXT.rf, q1, q2⟩
      rw [dM_of (Nat.le_of_ble_eq_true rfl)]
      simp -implicitDefEqProofs only [D_372_0, k_372_0, D_372_13, k_372_13, D_372_39, k_372_39, R_372, v_aload_n, g_iconst, g_sipush, v_callV3, aft_v, aft_n, g_if_ne, g_ireturn, g_dup_i, g_dup_r, g_getfield, sv_i, rf_s, g_getfieldS, g_iadd, g_put_i, entL, getL, setL, kL_i, kL_r, isI_s, isR_s, isJ_s, gV_s, iV_i, cs0, cs1, cs2, cs3, cs4, dn_nil, kd_si, kd_sl, kd_sw, mr_si, mr_sl, mr_sw, ml_si, ml_sw, mi_sl, cp_k, k3, h1, ↓if_neg z_1, if_neg z_1, cp_p J, cs_p J, v1, e7, i32_add, g', ↓if_true, if_true, rX_0]
    | inr a2 =>
      rw [e2] at g2
      rw [pB_r]
      obtain ⟨F2, P2, h2, K2, o2, v2, kp2, l2, u2⟩ := g2
      have e8 : P2 8 = Int32.ofNat x.2 := (kp2 8 (by decide)).trans ((zu_o (by decide)).trans ((kp1 8 (by decide)).trans f8))
      refine ⟨h, F2, zu P2 8 (Int32.ofNat (x.2 + a2.1)), D, R, ?_, EXT.rf, K2, o2, rfl, rfl, rfl, ?_, zu_same, ?_, ?_, ?_, ?_⟩
      · skip
        rw [dM_of (Nat.le_of_ble_eq_true rfl)]
        simp -implicitDefEqProofs only [D_372_0, k_372_0, D_372_13, k_372_13, D_372_39, k_372_39, R_372, v_aload_n, g_iconst, g_sipush, v_callV3, aft_v, aft_n, g_if_ne, g_ireturn, g_dup_i, g_dup_r, g_getfield, sv_i, rf_s, g_getfieldS, g_iadd, g_put_i, entL, getL, setL, kL_i, kL_r, isI_s, isR_s, isJ_s, gV_s, iV_i, cs0, cs1, cs2, cs3, cs4, dn_nil, kd_si, kd_sl, kd_sw, mr_si, mr_sl, mr_sw, ml_si, ml_sw, mi_sl, cp_k, k3, h1, ↓if_neg z_1, if_neg z_1, cp_p J, cs_p J, v1, e7, i32_add, h2, v2, e8, rX_1]
      · exact (zu_o (by decide)).trans ((kp2 7 (by decide)).trans zu_same)
      · exact ⟨(zu_o (by decide)).trans ((kp2 3 (by decide)).trans ((zu_o (by decide)).trans (kp1 3 (by decide)))), (zu_o (by decide)).trans ((kp2 4 (by decide)).trans ((zu_o (by decide)).trans (kp1 4 (by decide)))), (zu_o (by decide)).trans ((kp2 5 (by decide)).trans ((zu_o (by decide)).trans (kp1 5 (by decide))))⟩
      · show x.1 + a1.1 ≤ x.1 + 20000
        omega
      · show x.2 + 1 ≤ x.2 + a2.1
        omega
      · show x.2 + a2.1 ≤ x.2 + 9999
        omega
end PAS
