-- ===== item lines: the loops =====
section PURE
variable (T : Nat → Nat) (n : Nat)
def pVo (nm : Nat → Nat × (Nat → Nat)) (ns : Nat) (f : Nat → Int32) (t : Tok) : PE ((Nat → Int32) × Tok) := if pNa T t = true then (match pKi T nm ns t with
  | some k => pB (pNu T n 1 99 (tok T n t.2.1)) fun a => .inr (zu f k (f k + Int32.ofNat a.1), a.2)
  | none => .inl (3, t.1)) else .inl (1, t.1)
def pVl (nm : Nat → Nat × (Nat → Nat)) (ns : Nat) : Nat → (Nat × (Nat → Int32)) × Tok → PE ((Nat × (Nat → Int32)) × Tok)
  | 0, a => if isK T a.2 14 = true then .inl (5, a.2.1) else .inr a
  | k + 1, a => if isK T a.2 14 = true then pB (pVo T n nm ns a.1.2 (tok T n a.2.2.1)) (fun b => pVl nm ns k ((a.1.1 + 1, b.1), b.2)) else .inr a
end PURE
section PAS
variable {h : Mm} {tk pr d c n : Nat} {T : Nat → Nat} {F P P' : Nat → Int32} {D R : Nat → Nat → Int32} {t : Tok}
/-- samples: a loop's way out -/
def okP1 (h : Mm) (tk pr d c n : Nat) (P : Nat → Int32) (D R : Nat → Nat → Int32) (x0 : Nat × Nat) (m : Nat) (x : PE ((Nat × Nat) × Tok)) (o : Option Rs) : Prop := match x with
  | .inl e => ∃ h' F' P' D' R', o = some (.inl (some (.int 0)), h'.cp tk pr d c F' P' D' R') ∧ EXT d 0 h h' ∧ P' 4 = Int32.ofNat e.1 ∧ P' 5 = Int32.ofNat e.2
  | .inr a => ∃ F' P' s' tl', o = dB PG 355 94 (some (.ref pr) :: some (.int 1) :: some (.int s') :: tl') [] (h.cp tk pr d c F' P' D R) ∧ TK F' n a.2 ∧ tOk n a.2 ∧ P' 7 = Int32.ofNat a.1.1 ∧ P' 8 = Int32.ofNat a.1.2 ∧ kP P P' ∧ a.1.1 ≤ x0.1 + 20000 * m ∧ x0.2 ≤ a.1.2 ∧ a.1.2 ≤ x0.2 + 9999 * m
theorem R_355 : PG.2.1 355 = (some .boolean) := rfl
theorem l_355a (O : PO h tk pr d c) (X : TXT h n T) (W : WRD h) : ∀ (k s : Nat) (a : (Nat × Nat) × Tok) (F P : Nat → Int32) (tl : Lc), s + k = 3 → TK F n a.2 → tOk n a.2 → P 7 = Int32.ofNat a.1.1 → P 8 = Int32.ofNat a.1.2 → okP1 h tk pr d c n P D R a.1 k (pSl T n k a) (dB PG 355 45 (some (.ref pr) :: some (.int 1) :: some (.int (Int32.ofNat s)) :: tl) [] (h.cp tk pr d c F P D R)) := by
  have J := O.1
  have k3 : h.kd pr = some (.inl 3) := O.2.2.2.2.1
  have k1 : h.kd tk = some (.inl 6) := O.2.1
  have r0 : h.mr pr 0 = some tk := O.2.2.2.2.2.1
  obtain ⟨w89, -⟩ := W.1 13 (by decide)
  intro k
  induction k with
  | zero =>
    intro s a F P tl hs hF hi' f7 f8
    have g := p_351 (P := P) (D := D) (R := R) O X W hF hi'.1 (i := 13) (by decide)
    unfold pSl
    cases cc : isK T a.2 13 with
    | true =>
      rw [if_pos rfl]
      rw [cc] at g
      have e : ¬ Int32.ofNat s < 3 := fun q => by
        have := (i32_lt (a := s) (b := 3) (by omega) (by decide)).mp q
        omega
      have g2 := p_356 (P := P) (D := D) (R := R) O hF (code := 5)
      refine ⟨h, F, zu (zu P 4 5) 5 (Int32.ofNat a.2.1), D, R, ?_, EXT.rf, by rw [zu_o (by decide), zu_same]; rfl, zu_same⟩
      rw [D_355_45]
      simp -implicitDefEqProofs only [D_355_0, k_355_0, D_355_21, k_355_21, k_355_45, D_355_70, k_355_70, D_355_88, k_355_88, k_355_94, D_355_122, k_355_122, D_355_147, k_355_147, D_355_166, k_355_166, R_355, v_aload_n, g_getfield, sv_o, rf_s, g_getfieldS, sv_i, g_bipush, g_icmp_lt, g_iconst, v_callV2, aft_v, aft_n, g_ireturn, g_put_i, v_callV1, g_istore_n, v_iload_n, g_if_eq, g_getstatic, v_iinc, g_goto, g_if_ne, v_callV3, entL, getL, setL, kL_i, kL_r, isI_s, isR_s, isJ_s, gV_s, iV_i, cs0, cs1, cs2, cs3, cs4, dn_nil, kd_si, kd_sl, kd_sw, mr_si, mr_sl, mr_sw, ml_si, ml_sw, mi_sl, cp_k, k3, w89, g, b2i_1, ↓if_neg z_1, if_neg z_1, ↓if_neg e, if_neg e, g2, rX_0]
    | false =>
      rw [if_neg Bool.false_ne_true]
      rw [cc] at g
      refine ⟨F, P, Int32.ofNat s, tl, ?_, hF, hi', f7, f8, kP.rf, by omega, by omega, by omega⟩
      rw [D_355_45]
      simp -implicitDefEqProofs only [D_355_0, k_355_0, D_355_21, k_355_21, k_355_45, D_355_70, k_355_70, D_355_88, k_355_88, k_355_94, D_355_122, k_355_122, D_355_147, k_355_147, D_355_166, k_355_166, R_355, v_aload_n, g_getfield, sv_o, rf_s, g_getfieldS, sv_i, g_bipush, g_icmp_lt, g_iconst, v_callV2, aft_v, aft_n, g_ireturn, g_put_i, v_callV1, g_istore_n, v_iload_n, g_if_eq, g_getstatic, v_iinc, g_goto, g_if_ne, v_callV3, entL, getL, setL, kL_i, kL_r, isI_s, isR_s, isJ_s, gV_s, iV_i, cs0, cs1, cs2, cs3, cs4, dn_nil, kd_si, kd_sl, kd_sw, mr_si, mr_sl, mr_sw, ml_si, ml_sw, mi_sl, cp_k, k3, w89, g, b2i_0, ↓if_neg z_1, if_neg z_1, ↓if_true, if_true]
  | succ k ih =>
    intro s a F P tl hs hF hi' f7 f8
    have g := p_351 (P := P) (D := D) (R := R) O X W hF hi'.1 (i := 13) (by decide)
    unfold pSl
    cases cc : isK T a.2 13 with
    | true =>
      rw [if_pos rfl]
      rw [cc] at g
      have e : Int32.ofNat s < 3 := i32_lt_lit (b := 3) (by decide) (by omega)
      have s1 : Int32.ofNat (s) + 1 = Int32.ofNat (s + 1) := i32_add (b := 1)
      obtain ⟨F1, g1, K1⟩ := p_326 (P := P) (D := D) (R := R) O X hF hi'.1
      have o1 := tok_ok (T := T) hi'.1.2
      have g2 := s_372 (P := P) (D := D) (R := R) O X K1 o1 f7 f8
      cases e2 : pSm T n a.1 (tok T n a.2.2.1) with
      | inl y =>
        rw [e2] at g2
        rw [pB_l]
        obtain ⟨h', F', P', D', R', g3, E, q1, q2⟩ := g2
        have e5 : dB PG 355 45 (some (.ref pr) :: some (.int 0) :: some (.int (Int32.ofNat (s + 1))) :: tl) [] (h'.cp tk pr d c F' P' D' R') = some (.inl (some (.int 0)), h'.cp tk pr d c F' P' D' R') := by
          rw [D_355_45]
          simp -implicitDefEqProofs only [D_355_0, k_355_0, D_355_21, k_355_21, k_355_45, D_355_70, k_355_70, D_355_88, k_355_88, k_355_94, D_355_122, k_355_122, D_355_147, k_355_147, D_355_166, k_355_166, R_355, v_aload_n, g_getfield, sv_o, rf_s, g_getfieldS, sv_i, g_bipush, g_icmp_lt, g_iconst, v_callV2, aft_v, aft_n, g_ireturn, g_put_i, v_callV1, g_istore_n, v_iload_n, g_if_eq, g_getstatic, v_iinc, g_goto, g_if_ne, v_callV3, entL, getL, setL, kL_i, kL_r, isI_s, isR_s, isJ_s, gV_s, iV_i, cs0, cs1, cs2, cs3, cs4, dn_nil, kd_si, kd_sl, kd_sw, mr_si, mr_sl, mr_sw, ml_si, ml_sw, mi_sl, ↓if_true, if_true, rX_0]
        refine ⟨h', F', P', D', R', ?_, E, q1, q2⟩
        rw [D_355_45]
        simp -implicitDefEqProofs only [D_355_0, k_355_0, D_355_21, k_355_21, k_355_45, D_355_70, k_355_70, D_355_88, k_355_88, k_355_94, D_355_122, k_355_122, D_355_147, k_355_147, D_355_166, k_355_166, R_355, v_aload_n, g_getfield, sv_o, rf_s, g_getfieldS, sv_i, g_bipush, g_icmp_lt, g_iconst, v_callV2, aft_v, aft_n, g_ireturn, g_put_i, v_callV1, g_istore_n, v_iload_n, g_if_eq, g_getstatic, v_iinc, g_goto, g_if_ne, v_callV3, entL, getL, setL, kL_i, kL_r, isI_s, isR_s, isJ_s, gV_s, iV_i, cs0, cs1, cs2, cs3, cs4, dn_nil, kd_si, kd_sl, kd_sw, mr_si, mr_sl, mr_sw, ml_si, ml_sw, mi_sl, cp_k, cp_r, k3, k1, r0, w89, g, b2i_1, ↓if_neg z_1, if_neg z_1, ↓if_pos e, if_pos e, g1, g3, s1, e5]
      | inr b =>
        rw [e2] at g2
        rw [pB_r]
        obtain ⟨h', F', P', D', R', g3, -, K3, o3, eh, eD, eR, m7, m8, m3, b1, b2, b3⟩ := g2
        rw [eh, eD, eR] at g3
        have g4 := ih (s + 1) b F' P' tl (by omega) K3 o3 m7 m8
        have e6 : dB PG 355 45 (some (.ref pr) :: some (.int 1) :: some (.int (Int32.ofNat s)) :: tl) [] (h.cp tk pr d c F P D R) = dB PG 355 45 (some (.ref pr) :: some (.int 1) :: some (.int (Int32.ofNat (s + 1))) :: tl) [] (h.cp tk pr d c F' P' D R) := by
          rw [D_355_45]
          simp -implicitDefEqProofs only [D_355_0, k_355_0, D_355_21, k_355_21, k_355_45, D_355_70, k_355_70, D_355_88, k_355_88, k_355_94, D_355_122, k_355_122, D_355_147, k_355_147, D_355_166, k_355_166, R_355, v_aload_n, g_getfield, sv_o, rf_s, g_getfieldS, sv_i, g_bipush, g_icmp_lt, g_iconst, v_callV2, aft_v, aft_n, g_ireturn, g_put_i, v_callV1, g_istore_n, v_iload_n, g_if_eq, g_getstatic, v_iinc, g_goto, g_if_ne, v_callV3, entL, getL, setL, kL_i, kL_r, isI_s, isR_s, isJ_s, gV_s, iV_i, cs0, cs1, cs2, cs3, cs4, dn_nil, kd_si, kd_sl, kd_sw, mr_si, mr_sl, mr_sw, ml_si, ml_sw, mi_sl, cp_k, cp_r, k3, k1, r0, w89, g, b2i_1, ↓if_neg z_1, if_neg z_1, ↓if_pos e, if_pos e, g1, g3, s1]
        rw [e6]
        cases e7 : pSl T n k b with
        | inl y =>
          rw [e7] at g4
          obtain ⟨x1, x2, x3, x4, x5, x6⟩ := g4
          exact ⟨x1, x2, x3, x4, x5, x6⟩
        | inr y =>
          rw [e7] at g4
          obtain ⟨F2, P2, s2, tl2, x1, x2, x3, x4, x5, x6, x7, x8, x9⟩ := g4
          exact ⟨F2, P2, s2, tl2, x1, x2, x3, x4, x5, m3.tr x6, by omega, by omega, by omega⟩
    | false =>
      rw [if_neg Bool.false_ne_true]
      rw [cc] at g
      refine ⟨F, P, Int32.ofNat s, tl, ?_, hF, hi', f7, f8, kP.rf, by omega, by omega, by omega⟩
      rw [D_355_45]
      simp -implicitDefEqProofs only [D_355_0, k_355_0, D_355_21, k_355_21, k_355_45, D_355_70, k_355_70, D_355_88, k_355_88, k_355_94, D_355_122, k_355_122, D_355_147, k_355_147, D_355_166, k_355_166, R_355, v_aload_n, g_getfield, sv_o, rf_s, g_getfieldS, sv_i, g_bipush, g_icmp_lt, g_iconst, v_callV2, aft_v, aft_n, g_ireturn, g_put_i, v_callV1, g_istore_n, v_iload_n, g_if_eq, g_getstatic, v_iinc, g_goto, g_if_ne, v_callV3, entL, getL, setL, kL_i, kL_r, isI_s, isR_s, isJ_s, gV_s, iV_i, cs0, cs1, cs2, cs3, cs4, dn_nil, kd_si, kd_sl, kd_sw, mr_si, mr_sl, mr_sw, ml_si, ml_sw, mi_sl, cp_k, k3, w89, g, b2i_0, ↓if_neg z_1, if_neg z_1, ↓if_true, if_true]
/-- the rows while the votes of item i are read -/
def VR (R0 : Nat → Nat → Int32) (i : Nat) (f : Nat → Int32) (R : Nat → Nat → Int32) : Prop := (∀ k, k < 4 → R 12 (i * 4 + k) = f k) ∧ ∀ o j, (o ≠ 12 ∨ j < i * 4 ∨ i * 4 + 4 ≤ j) → R o j = R0 o j
theorem z2_ne {α : Type} {R : Nat → Nat → α} {o q j k : Nat} {v : α} (hh : o ≠ q ∨ j ≠ k) : zu2 R q k v o j = R o j := by
  by_cases e : o = q
  · rw [e]
    exact z2_k (hh.resolve_left (fun q => q e))
  · rw [z2_o e]
theorem VR_s {R0 : Nat → Nat → Int32} {i k : Nat} {f : Nat → Int32} {x : Int32} (V : VR R0 i f R) (hk : k < 4) : VR R0 i (zu f k (f k + x)) (zu2 R 12 (i * 4 + k) (R 12 (i * 4 + k) + x)) := by
  refine ⟨fun j hj => ?_, fun o j hj => ?_⟩
  · by_cases e : j = k
    · rw [e, z2_s, zu_same, V.1 k hk]
    · rw [z2_ne (Or.inr (by omega)), zu_o e, V.1 j hj]
  · rw [z2_ne (by omega)]
    exact V.2 o j hj
theorem p_257 (O : PO h tk pr d c) {i k : Nat} (hi : i < 80) (hk : k < 4) {v : Int32} : dM PG 257 [.ref (c + 7), .int (Int32.ofNat i), .int (Int32.ofNat k), .int v] (h.cp tk pr d c F P D R) = some (.inl none, h.cp tk pr d c F P D (zu2 R 12 (i * 4 + k) (R 12 (i * 4 + k) + v))) := by
  have Sc : ST h c := O.2.2.2.2.2.2.2.2.2.1
  have g := m_257 (h := h.cp tk pr d c F P D R) (R := R) (v := v) hi hk Sc
  rw [cb_c O.1, cb_c O.1] at g
  exact g
theorem p_258 (O : PO h tk pr d c) {i : Nat} (hi : i < 80) {mg : Int32} : dM PG 258 [.ref (c + 7), .int (Int32.ofNat i), .int mg] (h.cp tk pr d c F P D R) = some (.inl none, h.cp tk pr d c F P D (zu2 R 9 i (dtF R i mg))) := by
  have Sc : ST h c := O.2.2.2.2.2.2.2.2.2.1
  have g := m_258 (h := h.cp tk pr d c F P D R) (R := R) (mg := mg) hi Sc
  rw [cb_c O.1, cb_c O.1] at g
  exact g
/-- steps that make nothing new -/
def okP2 (h : Mm) (tk pr d c n : Nat) {A : Type} (K : A → (Nat → Int32) → (Nat → Nat → Int32) → (Nat → Nat → Int32) → Prop) (x : PE (A × Tok)) (o : Option Rs) : Prop := match x with
  | .inl e => ∃ F' P' D' R', o = some (.inl (some (.int 0)), h.cp tk pr d c F' P' D' R') ∧ P' 4 = Int32.ofNat e.1 ∧ P' 5 = Int32.ofNat e.2
  | .inr a => ∃ F' P' D' R', o = some (.inl (some (.int 1)), h.cp tk pr d c F' P' D' R') ∧ TK F' n a.2 ∧ tOk n a.2 ∧ K a.1 P' D' R'
def KV (P : Nat → Int32) (D R0 : Nat → Nat → Int32) (i : Nat) (f : Nat → Int32) (P' : Nat → Int32) (D' R' : Nat → Nat → Int32) : Prop := D' = D ∧ VR R0 i f R' ∧ kP P P'
theorem R_373 : PG.2.1 373 = (some .boolean) := rfl
theorem s_373 (O : PO h tk pr d c) (X : TXT h n T) (W : WRD h) (hF : TK F n t) (hi' : tOk n t) {ns i : Nat} {nm : Nat → Nat × (Nat → Nat)} {R0 : Nat → Nat → Int32} {f : Nat → Int32} (h4 : ns ≤ 4) (hi : i < 80) (f11 : D 0 11 = Int32.ofNat ns) (N : NMS h tk pr d c ns nm) (V : VR R0 i f R) : okP2 h tk pr d c n (KV P D R0 i) (pVo T n nm ns f t) (dM PG 373 [.ref pr, .int (Int32.ofNat i)] (h.cp tk pr d c F P D R)) := by
  have J := O.1
  have k3 : h.kd pr = some (.inl 3) := O.2.2.2.2.1
  have k1 : h.kd tk = some (.inl 6) := O.2.1
  have r0 : h.mr pr 0 = some tk := O.2.2.2.2.2.1
  have rc : h.mr pr 2 = some c := O.2.2.2.2.2.2.2.1
  have Sc : ST h c := O.2.2.2.2.2.2.2.2.2.1
  have g1 := s_369 (P := P) (D := D) (R := R) O X W hF hi'
  have g2 := s_370 (P := P) (D := D) (R := R) O X hF hi' h4 f11 N
  unfold pVo
  cases cc : pNa T t with
  | false =>
    rw [if_neg Bool.false_ne_true]
    rw [cc, b2i_0] at g1
    have g3 := p_356 (P := P) (D := D) (R := R) O hF (code := 1)
    refine ⟨F, zu (zu P 4 1) 5 (Int32.ofNat t.1), D, R, ?_, by rw [zu_o (by decide), zu_same]; rfl, zu_same⟩
    rw [dM_of (Nat.le_of_ble_eq_true rfl)]
    simp -implicitDefEqProofs only [D_373_0, k_373_0, D_373_13, k_373_13, D_373_29, k_373_29, D_373_48, k_373_48, R_373, v_aload_n, v_callV1, aft_v, aft_n, g_if_ne, g_iconst, v_callV2, g_ireturn, g_istore_n, v_iload_n, g_icmp_ne, g_getfield, sv_o, rf_s, g_getfieldS, g_bipush, v_callV3, sv_i, v_callV4, entL, getL, setL, kL_i, kL_r, isI_s, isR_s, isJ_s, gV_s, iV_i, cs0, cs1, cs2, cs3, cs4, dn_nil, kd_si, kd_sl, kd_sw, mr_si, mr_sl, mr_sw, ml_si, ml_sw, mi_sl, cp_k, k3, g1, ↓if_true, if_true, g3, rX_0]
  | true =>
    rw [if_pos rfl]
    rw [cc, b2i_1] at g1
    cases ck : pKi T nm ns t with
    | none =>
      rw [ck] at g2
      have g2' : dM PG 370 [.ref pr] (h.cp tk pr d c F P D R) = some (.inl (some (.int (-1))), h.cp tk pr d c F P D R) := g2
      have g3 := p_356 (P := P) (D := D) (R := R) O hF (code := 3)
      refine ⟨F, zu (zu P 4 3) 5 (Int32.ofNat t.1), D, R, ?_, by rw [zu_o (by decide), zu_same]; rfl, zu_same⟩
      rw [dM_of (Nat.le_of_ble_eq_true rfl)]
      simp -implicitDefEqProofs only [D_373_0, k_373_0, D_373_13, k_373_13, D_373_29, k_373_29, D_373_48, k_373_48, R_373, v_aload_n, v_callV1, aft_v, aft_n, g_if_ne, g_iconst, v_callV2, g_ireturn, g_istore_n, v_iload_n, g_icmp_ne, g_getfield, sv_o, rf_s, g_getfieldS, g_bipush, v_callV3, sv_i, v_callV4, entL, getL, setL, kL_i, kL_r, isI_s, isR_s, isJ_s, gV_s, iV_i, cs0, cs1, cs2, cs3, cs4, dn_nil, kd_si, kd_sl, kd_sw, mr_si, mr_sl, mr_sw, ml_si, ml_sw, mi_sl, cp_k, k3, g1, ↓if_neg z_1, if_neg z_1, g2', ↓if_true, if_true, g3, rX_0]
    | some k =>
      rw [ck] at g2
      have g2' : dM PG 370 [.ref pr] (h.cp tk pr d c F P D R) = some (.inl (some (.int (Int32.ofNat k))), h.cp tk pr d c F P D R) := g2
      have hk : k < 4 := by
        have := fnd_lt _ _ _ ck
        omega
      have zk : ¬ Int32.ofNat k = -1 := by
        have : k = 0 ∨ k = 1 ∨ k = 2 ∨ k = 3 := by omega
        rcases this with rfl | rfl | rfl | rfl <;> decide
      obtain ⟨F1, g3, K1⟩ := p_326 (P := P) (D := D) (R := R) O X hF hi'.1
      have o1 := tok_ok (T := T) hi'.1.2
      have g4 : okN h tk pr d c n P D R 1 99 (pNu T n 1 99 (tok T n t.2.1)) (dM PG 367 [.ref pr, .int 1, .int 99] (h.cp tk pr d c F1 P D R)) := s_367 O X K1 o1 (by decide) (by decide)
      show okP2 h tk pr d c n (KV P D R0 i) (pB (pNu T n 1 99 (tok T n t.2.1)) fun a => .inr (zu f k (f k + Int32.ofNat a.1), a.2)) _
      cases e1 : pNu T n 1 99 (tok T n t.2.1) with
      | inl x =>
        rw [e1] at g4
        rw [pB_l]
        obtain ⟨F', P', g5, q1, q2⟩ := g4
        refine ⟨F', P', D, R, ?_, q1, q2⟩
        rw [dM_of (Nat.le_of_ble_eq_true rfl)]
        simp -implicitDefEqProofs only [D_373_0, k_373_0, D_373_13, k_373_13, D_373_29, k_373_29, D_373_48, k_373_48, R_373, v_aload_n, v_callV1, aft_v, aft_n, g_if_ne, g_iconst, v_callV2, g_ireturn, g_istore_n, v_iload_n, g_icmp_ne, g_getfield, sv_o, rf_s, g_getfieldS, g_bipush, v_callV3, sv_i, v_callV4, entL, getL, setL, kL_i, kL_r, isI_s, isR_s, isJ_s, gV_s, iV_i, cs0, cs1, cs2, cs3, cs4, dn_nil, kd_si, kd_sl, kd_sw, mr_si, mr_sl, mr_sw, ml_si, ml_sw, mi_sl, cp_k, cp_r, k3, k1, r0, g1, ↓if_neg z_1, if_neg z_1, g2', ↓if_neg zk, if_neg zk, g3, g5, ↓if_true, if_true, rX_0]
      | inr a =>
        rw [e1] at g4
        rw [pB_r]
        obtain ⟨F2, P2, g5, K2, o2, v2, kp2, l2, u2⟩ := g4
        have g6 := p_257 (F := F2) (P := P2) (D := D) (R := R) O hi hk (v := Int32.ofNat a.1)
        refine ⟨F2, P2, D, zu2 R 12 (i * 4 + k) (R 12 (i * 4 + k) + Int32.ofNat a.1), ?_, K2, o2, rfl, VR_s V hk, kP.of kp2⟩
        rw [dM_of (Nat.le_of_ble_eq_true rfl)]
        simp -implicitDefEqProofs only [D_373_0, k_373_0, D_373_13, k_373_13, D_373_29, k_373_29, D_373_48, k_373_48, R_373, v_aload_n, v_callV1, aft_v, aft_n, g_if_ne, g_iconst, v_callV2, g_ireturn, g_istore_n, v_iload_n, g_icmp_ne, g_getfield, sv_o, rf_s, g_getfieldS, g_bipush, v_callV3, sv_i, v_callV4, entL, getL, setL, kL_i, kL_r, isI_s, isR_s, isJ_s, gV_s, iV_i, cs0, cs1, cs2, cs3, cs4, dn_nil, kd_si, kd_sl, kd_sw, mr_si, mr_sl, mr_sw, ml_si, ml_sw, mi_sl, cp_k, cp_r, k3, k1, r0, rc, st_k Sc, st_r12 Sc, st_ki Sc, g1, ↓if_neg z_1, if_neg z_1, g2', ↓if_neg zk, if_neg zk, g3, g5, cp_p J, v2, g6, rX_1]
end PAS
