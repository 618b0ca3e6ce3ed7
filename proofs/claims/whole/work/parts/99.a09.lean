-- ===== item lines: the whole =====
theorem tw_ne {b : Nat} (h1 : 1 ≤ b) (h2 : b < 1000000) : ¬ (2 : Int64) * (Int32.ofNat b).toInt64 = 0 := by
  rw [i64_of (by omega)]
  have e1 : (2 : Int64) * Int64.ofNat b = Int64.ofNat (2 * b) := (Int64.ofNat_mul 2 b).symm
  rw [e1]
  intro hc
  have h3 := congrArg Int64.toInt hc
  rw [Int64.toInt_ofNat_of_lt (by omega)] at h3
  have h0 : (0 : Int64).toInt = 0 := rfl
  rw [h0] at h3
  omega
-- the favourite depends on the item's scores alone
section FAV
variable {R R' : Nat → Nat → Int32} {i : Nat}
theorem favS_c (e : ∀ k, k < 4 → R 12 (i * 4 + k) = R' 12 (i * 4 + k)) {k b : Nat} (hk : k < 4) (hb : b < 4) : favS R i k b = favS R' i k b := by
  unfold favS
  rw [e b hb, e k hk]
theorem favS_l {k b : Nat} (hk : k < 4) (hb : b < 4) : favS R i k b < 4 := by
  unfold favS
  split
  · exact hk
  · exact hb
theorem favF_c (e : ∀ k, k < 4 → R 12 (i * 4 + k) = R' 12 (i * 4 + k)) : favF R i = favF R' i := by
  show favS R i 3 (favS R i 2 (favS R i 1 0)) = favS R' i 3 (favS R' i 2 (favS R' i 1 0))
  have l1 : favS R' i 1 0 < 4 := favS_l (by decide) (by decide)
  have l2 : favS R' i 2 (favS R' i 1 0) < 4 := favS_l (by decide) l1
  rw [favS_c e (k := 1) (b := 0) (by decide) (by decide), favS_c e (k := 2) (by decide) l1, favS_c e (k := 3) (by decide) l2]
theorem claF_c (e : ∀ k, k < 4 → R 12 (i * 4 + k) = R' 12 (i * 4 + k)) : claF R i = claF R' i := by
  unfold claF
  rw [favF_c e, e _ favF_lt]
  have x : fl (clS R i (favF R' i)) 4 0 0 = fl (clS R' i (favF R' i)) 4 0 0 := fl_congr 4 0 0 (fun j x h1 h2 => by
    unfold clS
    rw [e j (by omega)])
  rw [x]
theorem dtF_c (e : ∀ k, k < 4 → R 12 (i * 4 + k) = R' 12 (i * 4 + k)) {m : Int32} : dtF R i m = dtF R' i m := by
  unfold dtF
  rw [favF_c e, claF_c e, e _ favF_lt]
theorem aw_eq {w : Int32} : awF R i w = zu2 (zu2 (zu2 (zu2 (zu2 (zu2 (zu2 (zu2 (zu2 R 8 i w) 9 i (-1)) 10 i 0) 11 i (-1)) 12 (i * 4 + 0) 0) 12 (i * 4 + 1) 0) 12 (i * 4 + 2) 0) 12 (i * 4 + 3) 0) 7 0 (Int32.ofNat (i + 1)) := rfl
theorem aw_o {w : Int32} {o j : Nat} (h7 : o ≠ 7 ∨ j ≠ 0) (h8 : (o ≠ 8 ∧ o ≠ 9 ∧ o ≠ 10 ∧ o ≠ 11) ∨ j ≠ i) (h12 : o ≠ 12 ∨ j < i * 4 ∨ i * 4 + 4 ≤ j) : awF R i w o j = R o j := by
  rw [aw_eq, z2_ne (by omega), z2_ne (by omega), z2_ne (by omega), z2_ne (by omega), z2_ne (by omega), z2_ne (by omega), z2_ne (by omega), z2_ne (by omega), z2_ne (by omega)]
theorem aw_7 {w : Int32} : awF R i w 7 0 = Int32.ofNat (i + 1) := by
  rw [aw_eq, z2_s]
theorem aw_8 {w : Int32} : awF R i w 8 i = w := by
  rw [aw_eq, z2_ne (by omega), z2_ne (by omega), z2_ne (by omega), z2_ne (by omega), z2_ne (by omega), z2_ne (by omega), z2_ne (by omega), z2_ne (by omega), z2_s]
theorem aw_10 {w : Int32} : awF R i w 10 i = 0 := by
  rw [aw_eq, z2_ne (by omega), z2_ne (by omega), z2_ne (by omega), z2_ne (by omega), z2_ne (by omega), z2_ne (by omega), z2_s]
theorem aw_11 {w : Int32} : awF R i w 11 i = -1 := by
  rw [aw_eq, z2_ne (by omega), z2_ne (by omega), z2_ne (by omega), z2_ne (by omega), z2_ne (by omega), z2_s]
theorem aw_v {w : Int32} {k : Nat} (hk : k < 4) : awF R i w 12 (i * 4 + k) = 0 := by
  rw [aw_eq, z2_ne (by omega)]
  have : k = 0 ∨ k = 1 ∨ k = 2 ∨ k = 3 := by omega
  rcases this with rfl | rfl | rfl | rfl
  · rw [z2_ne (by omega), z2_ne (by omega), z2_ne (by omega), z2_s]
  · rw [z2_ne (by omega), z2_ne (by omega), z2_s]
  · rw [z2_ne (by omega), z2_s]
  · rw [z2_s]
end FAV
def itF (dr : Nat → Int32) (i : Nat) (w : Int32) (cnt : Nat) (f : Nat → Int32) : Nat → Int32 := fun j => if j = 9 then Int32.ofNat (i + 1) else if j = 208 + i then w else if j = 288 + i then Int32.ofNat cnt else if 368 + 4 * i ≤ j ∧ j < 372 + 4 * i then f (j - (368 + 4 * i)) else dr j
def pIt (T : Nat → Nat) (n : Nat) (q : Ps) (t : Tok) : PE (Ps × Tok) := if 60 ≤ q.ni then .inl (5, t.1) else pB (pSm T n (0, 0) (tok T n t.2.1)) fun a => pB (pSl T n 2 a) fun b => pB (pVl T n q.nm q.ns 5 ((0, fun _ => 0), b.2)) fun v =>
  .inr ((q.pl, itF q.dr q.ni (wfF (Int32.ofNat b.1.1) (Int32.ofNat b.1.2) (q.pl 0)) v.1.1 v.1.2, q.nm, q.ic, q.st, q.ns, q.ni + 1), v.2)
section PAS
variable {h : Mm} {tk pr d c n : Nat} {T : Nat → Nat} {F P P' : Nat → Int32} {D R : Nat → Nat → Int32} {t : Tok}
/-- votes: the line's end -/
def okP3 (h : Mm) (tk pr d c n : Nat) (P : Nat → Int32) (D R0 : Nat → Nat → Int32) (i : Nat) (x : PE ((Nat × (Nat → Int32)) × Tok)) (o : Option Rs) : Prop := match x with
  | .inl e => ∃ F' P' D' R', o = some (.inl (some (.int 0)), h.cp tk pr d c F' P' D' R') ∧ P' 4 = Int32.ofNat e.1 ∧ P' 5 = Int32.ofNat e.2
  | .inr a => ∃ F' P' R', o = some (.inl (some (.int 1)), h.cp tk pr d c F' P' D (zu2 R' 9 i (dtF R' i (D 0 1)))) ∧ TK F' n a.2 ∧ tOk n a.2 ∧ kP P P' ∧ VR R0 i a.1.2 R'
theorem l_355b (O : PO h tk pr d c) (X : TXT h n T) (W : WRD h) {ns i : Nat} {nm : Nat → Nat × (Nat → Nat)} {R0 : Nat → Nat → Int32} (h4 : ns ≤ 4) (hi : i < 80) (f11 : D 0 11 = Int32.ofNat ns) (N : NMS h tk pr d c ns nm) : ∀ (k v : Nat) (f : Nat → Int32) (t : Tok) (F P : Nat → Int32) (R : Nat → Nat → Int32) (tl : Lc), v + k = 5 → TK F n t → tOk n t → VR R0 i f R → okP3 h tk pr d c n P D R0 i (pVl T n nm ns k ((v, f), t)) (dB PG 355 122 (some (.ref pr) :: some (.int 1) :: some (.int (Int32.ofNat i)) :: some (.int (Int32.ofNat v)) :: tl) [] (h.cp tk pr d c F P D R)) := by
  have J := O.1
  have k3 : h.kd pr = some (.inl 3) := O.2.2.2.2.1
  have k1 : h.kd tk = some (.inl 6) := O.2.1
  have r0 : h.mr pr 0 = some tk := O.2.2.2.2.2.1
  have rd : h.mr pr 1 = some d := O.2.2.2.2.2.2.1
  have rc : h.mr pr 2 = some c := O.2.2.2.2.2.2.2.1
  have U : SU h d := O.2.2.2.2.2.2.2.2.1
  have Sc : ST h c := O.2.2.2.2.2.2.2.2.2.1
  have kd := su_k U
  have kc := st_k Sc
  obtain ⟨w90, -⟩ := W.1 14 (by decide)
  intro k
  induction k with
  | zero =>
    intro v f t F P R tl hs hF hi' V
    have g := p_351 (P := P) (D := D) (R := R) O X W hF hi'.1 (i := 14) (by decide)
    show okP3 h tk pr d c n P D R0 i (if isK T t 14 = true then .inl (5, t.1) else .inr ((v, f), t)) _
    cases cc : isK T t 14 with
    | true =>
      rw [if_pos rfl]
      rw [cc] at g
      have e : ¬ Int32.ofNat v < 5 := fun q => by
        have := (i32_lt (a := v) (b := 5) (by omega) (by decide)).mp q
        omega
      have g2 := p_356 (P := P) (D := D) (R := R) O hF (code := 5)
      refine ⟨F, zu (zu P 4 5) 5 (Int32.ofNat t.1), D, R, ?_, by rw [zu_o (by decide), zu_same]; rfl, zu_same⟩
      rw [D_355_122]
      simp -implicitDefEqProofs only [D_355_0, k_355_0, D_355_21, k_355_21, k_355_45, D_355_70, k_355_70, D_355_88, k_355_88, k_355_94, k_355_122, D_355_147, k_355_147, D_355_166, k_355_166, R_355, v_aload_n, g_getfield, sv_o, rf_s, g_getfieldS, sv_i, g_bipush, g_icmp_lt, g_iconst, v_callV2, aft_v, aft_n, g_ireturn, g_put_i, v_callV1, g_istore_n, v_iload_n, g_if_eq, g_getstatic, v_iinc, g_goto, g_if_ne, v_callV3, entL, getL, setL, kL_i, kL_r, isI_s, isR_s, isJ_s, gV_s, iV_i, cs0, cs1, cs2, cs3, cs4, dn_nil, kd_si, kd_sl, kd_sw, mr_si, mr_sl, mr_sw, ml_si, ml_sw, mi_sl, cp_k, k3, w90, g, b2i_1, ↓if_neg z_1, if_neg z_1, ↓if_neg e, if_neg e, g2, rX_0]
    | false =>
      rw [if_neg Bool.false_ne_true]
      rw [cc] at g
      have g2 := p_258 (F := F) (P := P) (D := D) (R := R) O hi (mg := D 0 1)
      refine ⟨F, P, R, ?_, hF, hi', kP.rf, V⟩
      rw [D_355_122]
      simp -implicitDefEqProofs only [D_355_0, k_355_0, D_355_21, k_355_21, k_355_45, D_355_70, k_355_70, D_355_88, k_355_88, k_355_94, k_355_122, D_355_147, k_355_147, D_355_166, k_355_166, R_355, v_aload_n, g_getfield, sv_o, rf_s, g_getfieldS, sv_i, g_bipush, g_icmp_lt, g_iconst, v_callV2, aft_v, aft_n, g_ireturn, g_put_i, v_callV1, g_istore_n, v_iload_n, g_if_eq, g_getstatic, v_iinc, g_goto, g_if_ne, v_callV3, entL, getL, setL, kL_i, kL_r, isI_s, isR_s, isJ_s, gV_s, iV_i, cs0, cs1, cs2, cs3, cs4, dn_nil, kd_si, kd_sl, kd_sw, mr_si, mr_sl, mr_sw, ml_si, ml_sw, mi_sl, cp_k, cp_r, k3, kd, kc, rd, rc, st_r12 Sc, st_ki Sc, cp_0 J, w90, g, b2i_0, ↓if_neg z_1, if_neg z_1, ↓if_true, if_true, g2, rX_1]
  | succ k ih =>
    intro v f t F P R tl hs hF hi' V
    have g := p_351 (P := P) (D := D) (R := R) O X W hF hi'.1 (i := 14) (by decide)
    show okP3 h tk pr d c n P D R0 i (if isK T t 14 = true then pB (pVo T n nm ns f (tok T n t.2.1)) (fun b => pVl T n nm ns k ((v + 1, b.1), b.2)) else .inr ((v, f), t)) _
    cases cc : isK T t 14 with
    | true =>
      rw [if_pos rfl]
      rw [cc] at g
      have e : Int32.ofNat v < 5 := i32_lt_lit (b := 5) (by decide) (by omega)
      have s1 : Int32.ofNat (v) + 1 = Int32.ofNat (v + 1) := i32_add (b := 1)
      obtain ⟨F1, g1, K1⟩ := p_326 (P := P) (D := D) (R := R) O X hF hi'.1
      have o1 := tok_ok (T := T) hi'.1.2
      have g2 := s_373 (P := P) (D := D) (R := R) O X W K1 o1 h4 hi f11 N V
      cases e2 : pVo T n nm ns f (tok T n t.2.1) with
      | inl y =>
        rw [e2] at g2
        rw [pB_l]
        obtain ⟨F', P', D', R', g3, q1, q2⟩ := g2
        have g4 := p_258 (F := F') (P := P') (D := D') (R := R') O hi (mg := D' 0 1)
        have e5 : dB PG 355 122 (some (.ref pr) :: some (.int 0) :: some (.int (Int32.ofNat i)) :: some (.int (Int32.ofNat (v + 1))) :: tl) [] (h.cp tk pr d c F' P' D' R') = some (.inl (some (.int 0)), h.cp tk pr d c F' P' D' (zu2 R' 9 i (dtF R' i (D' 0 1)))) := by
          rw [D_355_122]
          simp -implicitDefEqProofs only [D_355_0, k_355_0, D_355_21, k_355_21, k_355_45, D_355_70, k_355_70, D_355_88, k_355_88, k_355_94, k_355_122, D_355_147, k_355_147, D_355_166, k_355_166, R_355, v_aload_n, g_getfield, sv_o, rf_s, g_getfieldS, sv_i, g_bipush, g_icmp_lt, g_iconst, v_callV2, aft_v, aft_n, g_ireturn, g_put_i, v_callV1, g_istore_n, v_iload_n, g_if_eq, g_getstatic, v_iinc, g_goto, g_if_ne, v_callV3, entL, getL, setL, kL_i, kL_r, isI_s, isR_s, isJ_s, gV_s, iV_i, cs0, cs1, cs2, cs3, cs4, dn_nil, kd_si, kd_sl, kd_sw, mr_si, mr_sl, mr_sw, ml_si, ml_sw, mi_sl, cp_k, cp_r, k3, kd, kc, rd, rc, st_r12 Sc, st_ki Sc, cp_0 J, ↓if_true, if_true, g4, rX_0]
        refine ⟨F', P', D', zu2 R' 9 i (dtF R' i (D' 0 1)), ?_, q1, q2⟩
        rw [D_355_122]
        simp -implicitDefEqProofs only [D_355_0, k_355_0, D_355_21, k_355_21, k_355_45, D_355_70, k_355_70, D_355_88, k_355_88, k_355_94, k_355_122, D_355_147, k_355_147, D_355_166, k_355_166, R_355, v_aload_n, g_getfield, sv_o, rf_s, g_getfieldS, sv_i, g_bipush, g_icmp_lt, g_iconst, v_callV2, aft_v, aft_n, g_ireturn, g_put_i, v_callV1, g_istore_n, v_iload_n, g_if_eq, g_getstatic, v_iinc, g_goto, g_if_ne, v_callV3, entL, getL, setL, kL_i, kL_r, isI_s, isR_s, isJ_s, gV_s, iV_i, cs0, cs1, cs2, cs3, cs4, dn_nil, kd_si, kd_sl, kd_sw, mr_si, mr_sl, mr_sw, ml_si, ml_sw, mi_sl, cp_k, cp_r, k3, k1, r0, w90, g, b2i_1, ↓if_neg z_1, if_neg z_1, ↓if_pos e, if_pos e, g1, g3, s1, e5]
      | inr b =>
        rw [e2] at g2
        rw [pB_r]
        obtain ⟨F', P', D', R', g3, K3, o3, eD, V3, m3⟩ := g2
        rw [eD] at g3
        have g4 := ih (v + 1) b.1 b.2 F' P' R' tl (by omega) K3 o3 V3
        have e6 : dB PG 355 122 (some (.ref pr) :: some (.int 1) :: some (.int (Int32.ofNat i)) :: some (.int (Int32.ofNat v)) :: tl) [] (h.cp tk pr d c F P D R) = dB PG 355 122 (some (.ref pr) :: some (.int 1) :: some (.int (Int32.ofNat i)) :: some (.int (Int32.ofNat (v + 1))) :: tl) [] (h.cp tk pr d c F' P' D R') := by
          rw [D_355_122]
          simp -implicitDefEqProofs only [D_355_0, k_355_0, D_355_21, k_355_21, k_355_45, D_355_70, k_355_70, D_355_88, k_355_88, k_355_94, k_355_122, D_355_147, k_355_147, D_355_166, k_355_166, R_355, v_aload_n, g_getfield, sv_o, rf_s, g_getfieldS, sv_i, g_bipush, g_icmp_lt, g_iconst, v_callV2, aft_v, aft_n, g_ireturn, g_put_i, v_callV1, g_istore_n, v_iload_n, g_if_eq, g_getstatic, v_iinc, g_goto, g_if_ne, v_callV3, entL, getL, setL, kL_i, kL_r, isI_s, isR_s, isJ_s, gV_s, iV_i, cs0, cs1, cs2, cs3, cs4, dn_nil, kd_si, kd_sl, kd_sw, mr_si, mr_sl, mr_sw, ml_si, ml_sw, mi_sl, cp_k, cp_r, k3, k1, r0, w90, g, b2i_1, ↓if_neg z_1, if_neg z_1, ↓if_pos e, if_pos e, g1, g3, s1]
        rw [e6]
        cases e7 : pVl T n nm ns k ((v + 1, b.1), b.2) with
        | inl y =>
          rw [e7] at g4
          obtain ⟨x1, x2, x3, x4, x5⟩ := g4
          exact ⟨x1, x2, x3, x4, x5⟩
        | inr y =>
          rw [e7] at g4
          obtain ⟨x1, x2, x3, x4, x5, x6, x7, x8⟩ := g4
          exact ⟨x1, x2, x3, x4, x5, x6, m3.tr x7, x8⟩
    | false =>
      rw [if_neg Bool.false_ne_true]
      rw [cc] at g
      have g2 := p_258 (F := F) (P := P) (D := D) (R := R) O hi (mg := D 0 1)
      refine ⟨F, P, R, ?_, hF, hi', kP.rf, V⟩
      rw [D_355_122]
      simp -implicitDefEqProofs only [D_355_0, k_355_0, D_355_21, k_355_21, k_355_45, D_355_70, k_355_70, D_355_88, k_355_88, k_355_94, k_355_122, D_355_147, k_355_147, D_355_166, k_355_166, R_355, v_aload_n, g_getfield, sv_o, rf_s, g_getfieldS, sv_i, g_bipush, g_icmp_lt, g_iconst, v_callV2, aft_v, aft_n, g_ireturn, g_put_i, v_callV1, g_istore_n, v_iload_n, g_if_eq, g_getstatic, v_iinc, g_goto, g_if_ne, v_callV3, entL, getL, setL, kL_i, kL_r, isI_s, isR_s, isJ_s, gV_s, iV_i, cs0, cs1, cs2, cs3, cs4, dn_nil, kd_si, kd_sl, kd_sw, mr_si, mr_sl, mr_sw, ml_si, ml_sw, mi_sl, cp_k, cp_r, k3, kd, kc, rd, rc, st_r12 Sc, st_ki Sc, cp_0 J, w90, g, b2i_0, ↓if_neg z_1, if_neg z_1, ↓if_true, if_true, g2, rX_1]
theorem crel_t {q : Ps} {w : Int32} {cnt : Nat} {f : Nat → Int32} {R' : Nat → Nat → Int32} (C : CRel q h P D R) (V : VR (awF R q.ni w) q.ni f R') (h60 : q.ni < 60) (h3 : kP P P') : CRel (q.pl, itF q.dr q.ni w cnt f, q.nm, q.ic, q.st, q.ns, q.ni + 1) h P' D (zu2 R' 9 q.ni (dtF R' q.ni (D 0 1))) := by
  obtain ⟨⟨⟨i1, i2, i3, i4, i5, i6⟩, ⟨a1, a2⟩, a3, a4, a5, a6⟩, ⟨b1, b2⟩, ⟨I0, I⟩, ⟨c1, c2, c3, c4, c5, c6, c7, c8, c9, c10⟩, p3⟩ := C
  have rk : ∀ o j, (o ≠ 7 ∨ j ≠ 0) → ((o ≠ 8 ∧ o ≠ 9 ∧ o ≠ 10 ∧ o ≠ 11) ∨ j ≠ q.ni) → (o ≠ 12 ∨ j < q.ni * 4 ∨ q.ni * 4 + 4 ≤ j) → zu2 R' 9 q.ni (dtF R' q.ni (D 0 1)) o j = R o j := fun o j x y z => by
    rw [z2_ne (by omega), V.2 o j z, aw_o x y z]
  have it : ∀ j, j ≠ 9 → j < 208 → itF q.dr q.ni w cnt f j = q.dr j := fun j x y => by
    unfold itF
    rw [if_neg x, if_neg (by omega), if_neg (by omega), if_neg (by omega)]
  have it9 : itF q.dr q.ni w cnt f 9 = Int32.ofNat (q.ni + 1) := if_pos rfl
  refine ⟨⟨⟨i1, i2, h60, i4, i5, it9⟩, ⟨a1, a2⟩, a3, a4, a5, a6⟩, ⟨?_, fun k hk => ?_⟩, ⟨?_, fun i hi => ?_⟩, ⟨?_, ?_, ?_, ?_, ?_, fun k hk => ⟨?_, ?_⟩, fun k hk => ?_, ?_, ?_, ?_⟩, h3.1.trans p3.1, h3.2.1.trans p3.2.1, h3.2.2.trans p3.2.2⟩
  · exact ((rk 0 2 (by omega) (by omega) (by omega)).trans b1).trans (it 2 (by omega) (by omega)).symm
  · have hk : k < q.ns := hk
    obtain ⟨x, y⟩ := b2 k hk
    exact ⟨((rk 2 k (by omega) (by omega) (by omega)).trans x).trans (it _ (by omega) (by omega)).symm, ((rk 3 k (by omega) (by omega) (by omega)).trans y).trans (it _ (by omega) (by omega)).symm⟩
  · rw [z2_ne (by omega), V.2 7 0 (by omega), aw_7]
    rfl
  · have hi : i < q.ni + 1 := hi
    show zu2 R' 9 q.ni (dtF R' q.ni (D 0 1)) 8 i = itF q.dr q.ni w cnt f (208 + i) ∧ (∀ k, k < 4 → zu2 R' 9 q.ni (dtF R' q.ni (D 0 1)) 12 (i * 4 + k) = itF q.dr q.ni w cnt f (368 + 4 * i + k)) ∧ zu2 R' 9 q.ni (dtF R' q.ni (D 0 1)) 9 i = dtF (zu2 R' 9 q.ni (dtF R' q.ni (D 0 1))) i (q.pl 1) ∧ zu2 R' 9 q.ni (dtF R' q.ni (D 0 1)) 10 i = 0 ∧ zu2 R' 9 q.ni (dtF R' q.ni (D 0 1)) 11 i = -1
    by_cases e : i = q.ni
    · rw [e]
      refine ⟨?_, fun k hk => ?_, ?_, ?_, ?_⟩
      · rw [z2_ne (by omega), V.2 _ _ (by omega), aw_8]
        unfold itF
        rw [if_neg (by omega), if_pos rfl]
      · rw [z2_ne (by omega), V.1 k hk]
        unfold itF
        rw [if_neg (by omega), if_neg (by omega), if_neg (by omega), if_pos (by omega)]
        rw [show 368 + 4 * q.ni + k - (368 + 4 * q.ni) = k by omega]
      · rw [z2_s, a1 1 (by omega)]
        exact dtF_c (fun k hk => (z2_ne (by omega)).symm)
      · rw [z2_ne (by omega), V.2 _ _ (by omega), aw_10]
      · rw [z2_ne (by omega), V.2 _ _ (by omega), aw_11]
    · obtain ⟨x1, x2, x3, x4, x5⟩ := I i (by omega)
      refine ⟨?_, fun k hk => ?_, ?_, ?_, ?_⟩
      · rw [rk _ _ (by omega) (by omega) (by omega), x1]
        unfold itF
        rw [if_neg (by omega), if_neg (by omega), if_neg (by omega), if_neg (by omega)]
      · rw [rk _ _ (by omega) (by omega) (by omega), x2 k hk]
        unfold itF
        rw [if_neg (by omega), if_neg (by omega), if_neg (by omega), if_neg (by omega)]
      · rw [rk _ _ (by omega) (by omega) (by omega), x3]
        exact dtF_c (fun k hk => (rk _ _ (by omega) (by omega) (by omega)).symm)
      · rw [rk _ _ (by omega) (by omega) (by omega), x4]
      · rw [rk _ _ (by omega) (by omega) (by omega), x5]
  · exact (rk _ _ (by omega) (by omega) (by omega)).trans c1
  · exact (rk _ _ (by omega) (by omega) (by omega)).trans c2
  · exact (rk _ _ (by omega) (by omega) (by omega)).trans c3
  · exact (rk _ _ (by omega) (by omega) (by omega)).trans c4
  · exact (rk _ _ (by omega) (by omega) (by omega)).trans c5
  · exact (rk _ _ (by omega) (by omega) (by omega)).trans (c6 k hk).1
  · exact (rk _ _ (by omega) (by omega) (by omega)).trans (c6 k hk).2
  · exact (rk _ _ (by omega) (by omega) (by omega)).trans (c7 k hk)
  · exact (rk _ _ (by omega) (by omega) (by omega)).trans c8
  · exact (rk _ _ (by omega) (by omega) (by omega)).trans c9
  · exact (rk _ _ (by omega) (by omega) (by omega)).trans c10
theorem p_256 (O : PO h tk pr d c) {i : Nat} (hi : i < 80) {w : Int32} (h7 : R 7 0 = Int32.ofNat i) : dM PG 256 [.ref (c + 7), .int w] (h.cp tk pr d c F P D R) = some (.inl (some (.int (Int32.ofNat i))), h.cp tk pr d c F P D (awF R i w)) := by
  have Sc : ST h c := O.2.2.2.2.2.2.2.2.2.1
  have g := m_256 (h := h.cp tk pr d c F P D R) (R := R) (w := w) hi Sc h7
  rw [cb_c O.1, cb_c O.1] at g
  exact g
end PAS
