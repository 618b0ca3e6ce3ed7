-- ===== a line; the text's end =====
theorem pB_i {A B : Type} {x : PE A} {f : A → PE B} {b : B} (e : pB x f = .inr b) : ∃ a, x = .inr a ∧ f a = .inr b := by
  cases x with
  | inl y => cases e
  | inr a => exact ⟨a, rfl, e⟩
section PURE
variable {T : Nat → Nat} {n : Nat} {q : Ps} {t : Tok} {b : Ps × Tok}
theorem pIc_n (e : pIc T n q t = .inr b) : b.1.ns = q.ns ∧ b.1.nm = q.nm := by
  unfold pIc at e
  split at e
  · cases e
  · obtain ⟨a1, -, e⟩ := pB_i e
    obtain ⟨a2, -, e⟩ := pB_i e
    obtain ⟨a3, -, e⟩ := pB_i e
    obtain ⟨a4, -, e⟩ := pB_i e
    obtain ⟨a5, -, e⟩ := pB_i e
    cases e
    exact ⟨rfl, rfl⟩
theorem pSt_n (e : pSt T n q t = .inr b) : b.1.ns = q.ns ∧ b.1.nm = q.nm := by
  unfold pSt at e
  split at e
  · cases e
  · obtain ⟨a1, -, e⟩ := pB_i e
    obtain ⟨a2, -, e⟩ := pB_i e
    cases e
    exact ⟨rfl, rfl⟩
theorem pSp_n (e : pSp T n q t = .inr b) : b.1.ns = q.ns + 1 := by
  unfold pSp at e
  split at e
  · cases e
  · split at e
    · split at e
      · cases e
      · obtain ⟨a1, -, e⟩ := pB_i e
        obtain ⟨a2, -, e⟩ := pB_i e
        obtain ⟨a3, -, e⟩ := pB_i e
        obtain ⟨a4, -, e⟩ := pB_i e
        cases e
        rfl
    · cases e
theorem pIt_n (e : pIt T n q t = .inr b) : b.1.ns = q.ns ∧ b.1.nm = q.nm := by
  unfold pIt at e
  split at e
  · cases e
  · obtain ⟨a1, -, e⟩ := pB_i e
    obtain ⟨a2, -, e⟩ := pB_i e
    obtain ⟨a3, -, e⟩ := pB_i e
    cases e
    exact ⟨rfl, rfl⟩
end PURE
def pLn (T : Nat → Nat) (n : Nat) (q : Ps) (t : Tok) : PE (Ps × Tok) := if isK T t 5 = true then pIc T n q t else if isK T t 6 = true then pSt T n q t else if isK T t 7 = true then pSp T n q t else if isK T t 12 = true then pIt T n q t else .inl (1, t.1)
def pEn (q : Ps) (t : Tok) : PE Ps := if t.2.2.1 = 0 then (if q.ns = 0 then .inl (6, t.1) else .inr q) else .inl (1, t.1)
section PAS
variable {h : Mm} {tk pr d c n : Nat} {T : Nat → Nat} {F P P' : Nat → Int32} {D R : Nat → Nat → Int32} {t : Tok}
def KQ (tk pr d c : Nat) (q : Ps) (h' : Mm) (P : Nat → Int32) (D R : Nat → Nat → Int32) : Prop := CRel q h' P D R ∧ NMS h' tk pr d c q.ns q.nm
theorem EXT.up {d m m' : Nat} {h h' : Mm} (hm : m ≤ m') (E : EXT d m h h') : EXT d m' h h' := by
  obtain ⟨e1, e2, e3, e4, e5, e6⟩ := E
  exact ⟨e1, by omega, by omega, by omega, e5, e6⟩
/-- a line's outcome; what is new is counted by the species -/
def okP4 (h : Mm) (tk pr d c n ns : Nat) (x : PE (Ps × Tok)) (o : Option Rs) : Prop := match x with
  | .inl e => ∃ h' F' P' D' R', o = some (.inl (some (.int 0)), h'.cp tk pr d c F' P' D' R') ∧ EXT d (5 - ns) h h' ∧ P' 4 = Int32.ofNat e.1 ∧ P' 5 = Int32.ofNat e.2
  | .inr a => ∃ h' F' P' D' R', o = some (.inl (some (.int 1)), h'.cp tk pr d c F' P' D' R') ∧ EXT d (a.1.ns - ns) h h' ∧ TK F' n a.2 ∧ tOk n a.2 ∧ ns ≤ a.1.ns ∧ KQ tk pr d c a.1 h' P' D' R'
theorem okR_up {x : PE (Ps × Tok)} {o : Option Rs} {ns : Nat} {nm : Nat → Nat × (Nat → Nat)} (H : okR h tk pr d c n 0 (CRe h) x o) (N : NMS h tk pr d c ns nm) (e : ∀ b, x = .inr b → b.1.ns = ns ∧ b.1.nm = nm) : okP4 h tk pr d c n ns x o := by
  cases x with
  | inl y =>
    obtain ⟨x1, x2, x3, x4, x5, x6, x7, x8, x9⟩ := H
    exact ⟨x1, x2, x3, x4, x5, x6, EXT.up (Nat.zero_le _) x7, x8, x9⟩
  | inr a =>
    obtain ⟨x1, x2, x3, x4, x5, x6, x7, x8, x9, x10, x11⟩ := H
    obtain ⟨e1, e2⟩ := e a rfl
    refine ⟨x1, x2, x3, x4, x5, x6, EXT.up (Nat.zero_le _) x7, x8, x9, Nat.le_of_eq e1.symm, x10, ?_⟩
    rw [x11, e1, e2]
    exact N
theorem okR_sp {x : PE (Ps × Tok)} {o : Option Rs} {ns : Nat} (H : okR h tk pr d c n 1 (fun q' h' P' D' R' => CRel q' h' P' D' R' ∧ NMS h' tk pr d c q'.ns q'.nm) x o) (h4 : ns ≤ 4) (e : ∀ b, x = .inr b → b.1.ns = ns + 1) : okP4 h tk pr d c n ns x o := by
  cases x with
  | inl y =>
    obtain ⟨x1, x2, x3, x4, x5, x6, x7, x8, x9⟩ := H
    exact ⟨x1, x2, x3, x4, x5, x6, EXT.up (by omega) x7, x8, x9⟩
  | inr a =>
    obtain ⟨x1, x2, x3, x4, x5, x6, x7, x8, x9, x10⟩ := H
    have e1 := e a rfl
    exact ⟨x1, x2, x3, x4, x5, x6, EXT.up (by omega) x7, x8, x9, by omega, x10⟩
theorem R_328 : PG.2.1 328 = (some .boolean) := rfl
theorem s_328 {q : Ps} (O : PO h tk pr d c) (X : TXT h n T) (W : WRD h) (hF : TK F n t) (hi' : tOk n t) (C : CRel q h P D R) (N : NMS h tk pr d c q.ns q.nm) (Z : PZ h tk pr d c) : okP4 h tk pr d c n q.ns (pLn T n q t) (dM PG 328 [.ref pr] (h.cp tk pr d c F P D R)) := by
  have k3 : h.kd pr = some (.inl 3) := O.2.2.2.2.1
  obtain ⟨w81, -⟩ := W.1 5 (by decide)
  obtain ⟨w82, -⟩ := W.1 6 (by decide)
  obtain ⟨w83, -⟩ := W.1 7 (by decide)
  obtain ⟨w88, -⟩ := W.1 12 (by decide)
  have g5 := p_351 (P := P) (D := D) (R := R) O X W hF hi'.1 (i := 5) (by decide)
  have g6 := p_351 (P := P) (D := D) (R := R) O X W hF hi'.1 (i := 6) (by decide)
  have g7 := p_351 (P := P) (D := D) (R := R) O X W hF hi'.1 (i := 7) (by decide)
  have g12 := p_351 (P := P) (D := D) (R := R) O X W hF hi'.1 (i := 12) (by decide)
  unfold pLn
  cases c5 : isK T t 5 with
  | true =>
    rw [if_pos rfl]
    rw [c5] at g5
    have g : okP4 h tk pr d c n q.ns (pIc T n q t) (dM PG 352 [.ref pr] (h.cp tk pr d c F P D R)) := okR_up (s_352 O X hF hi' C) N (fun b e => pIc_n e)
    cases e : pIc T n q t with
    | inl y =>
      rw [e] at g
      obtain ⟨h', F', P', D', R', x1, x2⟩ := g
      refine ⟨h', F', P', D', R', ?_, x2⟩
      rw [dM_of (Nat.le_of_ble_eq_true rfl)]
      simp -implicitDefEqProofs only [D_328_0, k_328_0, D_328_15, k_328_15, D_328_30, k_328_30, D_328_45, k_328_45, D_328_60, k_328_60, R_328, v_aload_n, g_getstatic, v_callV2, aft_v, aft_n, g_if_eq, v_callV1, g_ireturn, g_iconst, entL, getL, setL, kL_i, kL_r, isI_s, isR_s, isJ_s, gV_s, iV_i, cs0, cs1, cs2, cs3, cs4, dn_nil, kd_si, kd_sl, kd_sw, mr_si, mr_sl, mr_sw, ml_si, ml_sw, mi_sl, cp_k, k3, w81, w82, w83, w88, g5, b2i_1, ↓if_neg z_1, if_neg z_1, x1, rX_0]
    | inr y =>
      rw [e] at g
      obtain ⟨h', F', P', D', R', x1, x2⟩ := g
      refine ⟨h', F', P', D', R', ?_, x2⟩
      rw [dM_of (Nat.le_of_ble_eq_true rfl)]
      simp -implicitDefEqProofs only [D_328_0, k_328_0, D_328_15, k_328_15, D_328_30, k_328_30, D_328_45, k_328_45, D_328_60, k_328_60, R_328, v_aload_n, g_getstatic, v_callV2, aft_v, aft_n, g_if_eq, v_callV1, g_ireturn, g_iconst, entL, getL, setL, kL_i, kL_r, isI_s, isR_s, isJ_s, gV_s, iV_i, cs0, cs1, cs2, cs3, cs4, dn_nil, kd_si, kd_sl, kd_sw, mr_si, mr_sl, mr_sw, ml_si, ml_sw, mi_sl, cp_k, k3, w81, w82, w83, w88, g5, b2i_1, ↓if_neg z_1, if_neg z_1, x1, rX_1]
  | false =>
    rw [if_neg Bool.false_ne_true]
    rw [c5] at g5
    cases c6 : isK T t 6 with
    | true =>
      rw [if_pos rfl]
      rw [c6] at g6
      have g : okP4 h tk pr d c n q.ns (pSt T n q t) (dM PG 353 [.ref pr] (h.cp tk pr d c F P D R)) := okR_up (s_353 O X hF hi' C) N (fun b e => pSt_n e)
      cases e : pSt T n q t with
      | inl y =>
        rw [e] at g
        obtain ⟨h', F', P', D', R', x1, x2⟩ := g
        refine ⟨h', F', P', D', R', ?_, x2⟩
        rw [dM_of (Nat.le_of_ble_eq_true rfl)]
        simp -implicitDefEqProofs only [D_328_0, k_328_0, D_328_15, k_328_15, D_328_30, k_328_30, D_328_45, k_328_45, D_328_60, k_328_60, R_328, v_aload_n, g_getstatic, v_callV2, aft_v, aft_n, g_if_eq, v_callV1, g_ireturn, g_iconst, entL, getL, setL, kL_i, kL_r, isI_s, isR_s, isJ_s, gV_s, iV_i, cs0, cs1, cs2, cs3, cs4, dn_nil, kd_si, kd_sl, kd_sw, mr_si, mr_sl, mr_sw, ml_si, ml_sw, mi_sl, cp_k, k3, w81, w82, w83, w88, g5, g6, b2i_1, ↓if_neg z_1, if_neg z_1, x1, ↓if_true, if_true, b2i_0, rX_0]
      | inr y =>
        rw [e] at g
        obtain ⟨h', F', P', D', R', x1, x2⟩ := g
        refine ⟨h', F', P', D', R', ?_, x2⟩
        rw [dM_of (Nat.le_of_ble_eq_true rfl)]
        simp -implicitDefEqProofs only [D_328_0, k_328_0, D_328_15, k_328_15, D_328_30, k_328_30, D_328_45, k_328_45, D_328_60, k_328_60, R_328, v_aload_n, g_getstatic, v_callV2, aft_v, aft_n, g_if_eq, v_callV1, g_ireturn, g_iconst, entL, getL, setL, kL_i, kL_r, isI_s, isR_s, isJ_s, gV_s, iV_i, cs0, cs1, cs2, cs3, cs4, dn_nil, kd_si, kd_sl, kd_sw, mr_si, mr_sl, mr_sw, ml_si, ml_sw, mi_sl, cp_k, k3, w81, w82, w83, w88, g5, g6, b2i_1, ↓if_neg z_1, if_neg z_1, x1, ↓if_true, if_true, b2i_0, rX_1]
    | false =>
      rw [if_neg Bool.false_ne_true]
      rw [c6] at g6
      cases c7 : isK T t 7 with
      | true =>
        rw [if_pos rfl]
        rw [c7] at g7
        have g : okP4 h tk pr d c n q.ns (pSp T n q t) (dM PG 354 [.ref pr] (h.cp tk pr d c F P D R)) := okR_sp (s_354 O X W hF hi' C N Z) C.1.1.2.1 (fun b e => pSp_n e)
        cases e : pSp T n q t with
        | inl y =>
          rw [e] at g
          obtain ⟨h', F', P', D', R', x1, x2⟩ := g
          refine ⟨h', F', P', D', R', ?_, x2⟩
          rw [dM_of (Nat.le_of_ble_eq_true rfl)]
          simp -implicitDefEqProofs only [D_328_0, k_328_0, D_328_15, k_328_15, D_328_30, k_328_30, D_328_45, k_328_45, D_328_60, k_328_60, R_328, v_aload_n, g_getstatic, v_callV2, aft_v, aft_n, g_if_eq, v_callV1, g_ireturn, g_iconst, entL, getL, setL, kL_i, kL_r, isI_s, isR_s, isJ_s, gV_s, iV_i, cs0, cs1, cs2, cs3, cs4, dn_nil, kd_si, kd_sl, kd_sw, mr_si, mr_sl, mr_sw, ml_si, ml_sw, mi_sl, cp_k, k3, w81, w82, w83, w88, g5, g6, g7, b2i_1, ↓if_neg z_1, if_neg z_1, x1, ↓if_true, if_true, b2i_0, rX_0]
        | inr y =>
          rw [e] at g
          obtain ⟨h', F', P', D', R', x1, x2⟩ := g
          refine ⟨h', F', P', D', R', ?_, x2⟩
          rw [dM_of (Nat.le_of_ble_eq_true rfl)]
          simp -implicitDefEqProofs only [D_328_0, k_328_0, D_328_15, k_328_15, D_328_30, k_328_30, D_328_45, k_328_45, D_328_60, k_328_60, R_328, v_aload_n, g_getstatic, v_callV2, aft_v, aft_n, g_if_eq, v_callV1, g_ireturn, g_iconst, entL, getL, setL, kL_i, kL_r, isI_s, isR_s, isJ_s, gV_s, iV_i, cs0, cs1, cs2, cs3, cs4, dn_nil, kd_si, kd_sl, kd_sw, mr_si, mr_sl, mr_sw, ml_si, ml_sw, mi_sl, cp_k, k3, w81, w82, w83, w88, g5, g6, g7, b2i_1, ↓if_neg z_1, if_neg z_1, x1, ↓if_true, if_true, b2i_0, rX_1]
      | false =>
        rw [if_neg Bool.false_ne_true]
        rw [c7] at g7
        cases c12 : isK T t 12 with
        | true =>
          rw [if_pos rfl]
          rw [c12] at g12
          have g : okP4 h tk pr d c n q.ns (pIt T n q t) (dM PG 355 [.ref pr] (h.cp tk pr d c F P D R)) := okR_up (s_355 O X W hF hi' C N) N (fun b e => pIt_n e)
          cases e : pIt T n q t with
          | inl y =>
            rw [e] at g
            obtain ⟨h', F', P', D', R', x1, x2⟩ := g
            refine ⟨h', F', P', D', R', ?_, x2⟩
            rw [dM_of (Nat.le_of_ble_eq_true rfl)]
            simp -implicitDefEqProofs only [D_328_0, k_328_0, D_328_15, k_328_15, D_328_30, k_328_30, D_328_45, k_328_45, D_328_60, k_328_60, R_328, v_aload_n, g_getstatic, v_callV2, aft_v, aft_n, g_if_eq, v_callV1, g_ireturn, g_iconst, entL, getL, setL, kL_i, kL_r, isI_s, isR_s, isJ_s, gV_s, iV_i, cs0, cs1, cs2, cs3, cs4, dn_nil, kd_si, kd_sl, kd_sw, mr_si, mr_sl, mr_sw, ml_si, ml_sw, mi_sl, cp_k, k3, w81, w82, w83, w88, g5, g6, g7, g12, b2i_1, ↓if_neg z_1, if_neg z_1, x1, ↓if_true, if_true, b2i_0, rX_0]
          | inr y =>
            rw [e] at g
            obtain ⟨h', F', P', D', R', x1, x2⟩ := g
            refine ⟨h', F', P', D', R', ?_, x2⟩
            rw [dM_of (Nat.le_of_ble_eq_true rfl)]
            simp -implicitDefEqProofs only [D_328_0, k_328_0, D_328_15, k_328_15, D_328_30, k_328_30, D_328_45, k_328_45, D_328_60, k_328_60, R_328, v_aload_n, g_getstatic, v_callV2, aft_v, aft_n, g_if_eq, v_callV1, g_ireturn, g_iconst, entL, getL, setL, kL_i, kL_r, isI_s, isR_s, isJ_s, gV_s, iV_i, cs0, cs1, cs2, cs3, cs4, dn_nil, kd_si, kd_sl, kd_sw, mr_si, mr_sl, mr_sw, ml_si, ml_sw, mi_sl, cp_k, k3, w81, w82, w83, w88, g5, g6, g7, g12, b2i_1, ↓if_neg z_1, if_neg z_1, x1, ↓if_true, if_true, b2i_0, rX_1]
        | false =>
          rw [if_neg Bool.false_ne_true]
          rw [c12] at g12
          have g := p_356 (P := P) (D := D) (R := R) O hF (code := 1)
          refine ⟨h, F, zu (zu P 4 1) 5 (Int32.ofNat t.1), D, R, ?_, EXT.rf, by rw [zu_o (by decide), zu_same]; rfl, zu_same⟩
          rw [dM_of (Nat.le_of_ble_eq_true rfl)]
          simp -implicitDefEqProofs only [D_328_0, k_328_0, D_328_15, k_328_15, D_328_30, k_328_30, D_328_45, k_328_45, D_328_60, k_328_60, R_328, v_aload_n, g_getstatic, v_callV2, aft_v, aft_n, g_if_eq, v_callV1, g_ireturn, g_iconst, entL, getL, setL, kL_i, kL_r, isI_s, isR_s, isJ_s, gV_s, iV_i, cs0, cs1, cs2, cs3, cs4, dn_nil, kd_si, kd_sl, kd_sw, mr_si, mr_sl, mr_sw, ml_si, ml_sw, mi_sl, cp_k, k3, w81, w82, w83, w88, g5, g6, g7, g12, b2i_0, ↓if_true, if_true, g, rX_0]
theorem R_329 : PG.2.1 329 = (some .boolean) := rfl
theorem s_329 {q : Ps} (O : PO h tk pr d c) (hF : TK F n t) (hi' : tOk n t) (C : CRel q h P D R) : (match pEn q t with
    | .inl e => ∃ P', dM PG 329 [.ref pr] (h.cp tk pr d c F P D R) = some (.inl (some (.int 0)), h.cp tk pr d c F P' D R) ∧ P' 4 = Int32.ofNat e.1 ∧ P' 5 = Int32.ofNat e.2
    | .inr _ => dM PG 329 [.ref pr] (h.cp tk pr d c F P D R) = some (.inl (some (.int 1)), h.cp tk pr d c F P D R)) := by
  have J := O.1
  have k1 : h.kd tk = some (.inl 6) := O.2.1
  have k3 : h.kd pr = some (.inl 3) := O.2.2.2.2.1
  have r0 : h.mr pr 0 = some tk := O.2.2.2.2.2.1
  have rd : h.mr pr 1 = some d := O.2.2.2.2.2.2.1
  have U : SU h d := O.2.2.2.2.2.2.2.2.1
  have kd := su_k U
  have f4 := hF.2.2.2.1
  have f11 : D 0 11 = Int32.ofNat q.ns := C.1.2.2.2.1
  have ls : q.ns ≤ 4 := C.1.1.2.1
  unfold pEn
  by_cases c1 : t.2.2.1 = 0
  · rw [if_pos c1]
    have e4 : Int32.ofNat t.2.2.1 = 0 := by
      rw [c1]
      rfl
    by_cases c2 : q.ns = 0
    · rw [if_pos c2]
      have z : ¬ (0 : Int32) < Int32.ofNat q.ns := by
        rw [c2]
        decide
      have g := p_356 (P := P) (D := D) (R := R) O hF (code := 6)
      refine ⟨zu (zu P 4 6) 5 (Int32.ofNat t.1), ?_, by rw [zu_o (by decide), zu_same]; rfl, zu_same⟩
      rw [dM_of (Nat.le_of_ble_eq_true rfl)]
      simp -implicitDefEqProofs only [D_329_0, k_329_0, D_329_16, k_329_16, D_329_35, k_329_35, D_329_39, k_329_39, D_329_40, k_329_40, R_329, v_aload_n, g_getfield, sv_o, rf_s, g_getfieldS, sv_i, g_if_eq, g_iconst, v_callV2, aft_v, aft_n, g_ireturn, g_if_gt, g_bipush, g_goto, entL, getL, setL, kL_i, kL_r, isI_s, isR_s, isJ_s, gV_s, iV_i, cs0, cs1, cs2, cs3, cs4, dn_nil, kd_si, kd_sl, kd_sw, mr_si, mr_sl, mr_sw, ml_si, ml_sw, mi_sl, cp_k, cp_r, k3, k1, kd, r0, rd, cp_t, f4, ↓if_pos e4, if_pos e4, cp_0 J, f11, ↓if_neg z, if_neg z, g, ↓if_true, if_true, rX_0]
    · rw [if_neg c2]
      have z : (0 : Int32) < Int32.ofNat q.ns := (i32_lt (a := 0) (b := q.ns) (by decide) (by omega)).mpr (by omega)
      show dM PG 329 [.ref pr] (h.cp tk pr d c F P D R) = some (.inl (some (.int 1)), h.cp tk pr d c F P D R)
      rw [dM_of (Nat.le_of_ble_eq_true rfl)]
      simp -implicitDefEqProofs only [D_329_0, k_329_0, D_329_16, k_329_16, D_329_35, k_329_35, D_329_39, k_329_39, D_329_40, k_329_40, R_329, v_aload_n, g_getfield, sv_o, rf_s, g_getfieldS, sv_i, g_if_eq, g_iconst, v_callV2, aft_v, aft_n, g_ireturn, g_if_gt, g_bipush, g_goto, entL, getL, setL, kL_i, kL_r, isI_s, isR_s, isJ_s, gV_s, iV_i, cs0, cs1, cs2, cs3, cs4, dn_nil, kd_si, kd_sl, kd_sw, mr_si, mr_sl, mr_sw, ml_si, ml_sw, mi_sl, cp_k, cp_r, k3, k1, kd, r0, rd, cp_t, f4, ↓if_pos e4, if_pos e4, cp_0 J, f11, ↓if_pos z, if_pos z, rX_1]
  · rw [if_neg c1]
    have e4 : ¬ Int32.ofNat t.2.2.1 = 0 := by
      show ¬ Int32.ofNat t.2.2.1 = Int32.ofNat 0
      exact i32_ne (by have := hi'.2.2; omega) (by omega) c1
    have g := p_356 (P := P) (D := D) (R := R) O hF (code := 1)
    refine ⟨zu (zu P 4 1) 5 (Int32.ofNat t.1), ?_, by rw [zu_o (by decide), zu_same]; rfl, zu_same⟩
    rw [dM_of (Nat.le_of_ble_eq_true rfl)]
    simp -implicitDefEqProofs only [D_329_0, k_329_0, D_329_16, k_329_16, D_329_35, k_329_35, D_329_39, k_329_39, D_329_40, k_329_40, R_329, v_aload_n, g_getfield, sv_o, rf_s, g_getfieldS, sv_i, g_if_eq, g_iconst, v_callV2, aft_v, aft_n, g_ireturn, g_if_gt, g_bipush, g_goto, entL, getL, setL, kL_i, kL_r, isI_s, isR_s, isJ_s, gV_s, iV_i, cs0, cs1, cs2, cs3, cs4, dn_nil, kd_si, kd_sl, kd_sw, mr_si, mr_sl, mr_sw, ml_si, ml_sw, mi_sl, cp_k, cp_r, k3, k1, kd, r0, rd, cp_t, f4, ↓if_neg e4, if_neg e4, g, rX_0]
end PAS
