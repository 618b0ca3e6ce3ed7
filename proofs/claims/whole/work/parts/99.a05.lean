-- ===== the parser, purely: an error (code, place), or what was read =====
abbrev PE (A : Type) : Type := (Nat × Nat) ⊕ A
def pB {A B : Type} (x : PE A) (f : A → PE B) : PE B := match x with
  | .inl e => .inl e
  | .inr a => f a
section PURE
variable (T : Nat → Nat) (n : Nat)
def pNu (lo hi : Nat) (t : Tok) : PE (Nat × Tok) := if nuE lo hi t = 0 then .inr (t.2.2.2, tok T n t.2.1) else .inl (nuE lo hi t, t.1)
def pKw (i : Nat) (t : Tok) : PE Tok := if isK T t i = true then .inr (tok T n t.2.1) else .inl (1, t.1)
def pNm (i lo hi : Nat) (t : Tok) : PE (Nat × Tok) := pB (pKw T n i t) (pNu T n lo hi)
end PURE
def tOk (n : Nat) (t : Tok) : Prop := tIn n t ∧ t.2.2.2 < 1000000 ∧ t.2.2.1 < 5
theorem tok_ok {T : Nat → Nat} {n p : Nat} (hp : p ≤ n) : tOk n (tok T n p) := by
  refine ⟨tok_in hp, ?_⟩
  have h1 := rn_le (q := isB T) (n - p) p
  unfold tok tokS
  generalize rn (isB T) (n - p) p = s at h1
  have h3 := rn_le (q := isD T) (n - s) s
  split
  · exact ⟨show 0 < 1000000 by decide, show 0 < 5 by decide⟩
  · split
    · refine ⟨show 0 < 1000000 by decide, ?_⟩
      dsimp only
      split <;> decide
    · split
      · refine ⟨?_, ?_⟩
        · dsimp only
          have hv := vl_lt (T := T) (s := s) (rn (isD T) (n - s) s - s) s 0 (Nat.le_refl s) (by omega) (fun j a b => by
            have := rn_in (q := isD T) (n - s) s j a (by omega)
            exact (of_decide_eq_true this).2) (by rw [Nat.sub_self]; decide)
          have hp6 : 10 ^ (min (s + (rn (isD T) (n - s) s - s) - s) 6) ≤ 10 ^ 6 := Nat.pow_le_pow_right (by decide) (Nat.min_le_right _ _)
          omega
        · dsimp only
          split <;> decide
      · refine ⟨show 0 < 1000000 by decide, ?_⟩
        dsimp only
        split <;> decide
section PAS
variable {h : Mm} {tk pr d c n : Nat} {T : Nat → Nat} {F P : Nat → Int32} {D R : Nat → Nat → Int32} {t : Tok}
def keepP (P P' : Nat → Int32) : Prop := ∀ j, j ≠ 6 → P' j = P j
/-- a step of the parser: an error, or value and next token -/
def okN (h : Mm) (tk pr d c n : Nat) (P : Nat → Int32) (D R : Nat → Nat → Int32) (lo hi : Nat) (x : PE (Nat × Tok)) (o : Option Rs) : Prop := match x with
  | .inl e => ∃ F' P', o = some (.inl (some (.int 0)), h.cp tk pr d c F' P' D R) ∧ P' 4 = Int32.ofNat e.1 ∧ P' 5 = Int32.ofNat e.2
  | .inr a => ∃ F' P', o = some (.inl (some (.int 1)), h.cp tk pr d c F' P' D R) ∧ TK F' n a.2 ∧ tOk n a.2 ∧ P' 6 = Int32.ofNat a.1 ∧ keepP P P' ∧ lo ≤ a.1 ∧ a.1 ≤ hi
theorem s_367 (O : PO h tk pr d c) (X : TXT h n T) (hF : TK F n t) (hi' : tOk n t) {lo hi : Nat} (hlo : lo < 2147483648) (hhi : hi < 2147483648) : okN h tk pr d c n P D R lo hi (pNu T n lo hi t) (dM PG 367 [.ref pr, .int (Int32.ofNat lo), .int (Int32.ofNat hi)] (h.cp tk pr d c F P D R)) := by
  obtain ⟨i1, i2, i3⟩ := hi'
  unfold pNu
  by_cases cc : nuE lo hi t = 0
  · rw [if_pos cc]
    obtain ⟨F', g, K, l1, l2⟩ := p_367y (P := P) (D := D) (R := R) O X hF i1 hlo hhi (by omega) cc
    exact ⟨F', _, g, K, tok_ok i1.2, zu_same, fun j hj => zu_o hj, l1, l2⟩
  · rw [if_neg cc]
    have g := p_367n (P := P) (D := D) (R := R) O hF hlo hhi (by omega) i3 cc
    exact ⟨F, _, g, by rw [zu_o (by decide), zu_same], zu_same⟩
theorem R_350 : PG.2.1 350 = (some .boolean) := rfl
theorem s_350 (O : PO h tk pr d c) (X : TXT h n T) (W : WRD h) (hF : TK F n t) (hi' : tOk n t) {i lo hi : Nat} (h15 : i < 15) (hlo : lo < 2147483648) (hhi : hi < 2147483648) : okN h tk pr d c n P D R lo hi (pNm T n i lo hi t) (dM PG 350 [.ref pr, .ref (76 + i), .int (Int32.ofNat lo), .int (Int32.ofNat hi)] (h.cp tk pr d c F P D R)) := by
  obtain ⟨w1, -⟩ := W.1 i h15
  have k3 : h.kd pr = some (.inl 3) := O.2.2.2.2.1
  unfold pNm pKw
  cases cc : isK T t i with
  | false =>
    rw [if_neg Bool.false_ne_true]
    have g := p_349n (P := P) (D := D) (R := R) O X W hF hi'.1 h15 cc
    refine ⟨F, zu (zu P 4 1) 5 (Int32.ofNat t.1), ?_, by rw [zu_o (by decide), zu_same]; rfl, zu_same⟩
    rw [dM_of (Nat.le_of_ble_eq_true rfl)]
    simp -implicitDefEqProofs only [D_350_0, k_350_0, D_350_21, k_350_21, D_350_22, k_350_22, R_350, v_aload_n, v_callV2, aft_v, aft_n, g_if_eq, v_iload_n, v_callV3, g_iconst, g_goto, g_ireturn, entL, getL, setL, kL_i, kL_r, isI_s, isR_s, isJ_s, gV_s, iV_i, cs0, cs1, cs2, cs3, cs4, dn_nil, kd_si, kd_sl, kd_sw, mr_si, mr_sl, mr_sw, ml_si, ml_sw, mi_sl, cp_k, k3, g, ↓if_true, if_true, rX_0]
  | true =>
    rw [if_pos rfl]
    obtain ⟨F1, g, K⟩ := p_349y (P := P) (D := D) (R := R) O X W hF hi'.1 h15 cc
    have g2 := s_367 (P := P) (D := D) (R := R) O X K (tok_ok hi'.1.2) hlo hhi
    show okN h tk pr d c n P D R lo hi (pNu T n lo hi (tok T n t.2.1)) _
    cases e : pNu T n lo hi (tok T n t.2.1) with
    | inl a =>
      rw [e] at g2
      obtain ⟨F', P', g3, q1, q2⟩ := g2
      refine ⟨F', P', ?_, q1, q2⟩
      rw [dM_of (Nat.le_of_ble_eq_true rfl)]
      simp -implicitDefEqProofs only [D_350_0, k_350_0, D_350_21, k_350_21, D_350_22, k_350_22, R_350, v_aload_n, v_callV2, aft_v, aft_n, g_if_eq, v_iload_n, v_callV3, g_iconst, g_goto, g_ireturn, entL, getL, setL, kL_i, kL_r, isI_s, isR_s, isJ_s, gV_s, iV_i, cs0, cs1, cs2, cs3, cs4, dn_nil, kd_si, kd_sl, kd_sw, mr_si, mr_sl, mr_sw, ml_si, ml_sw, mi_sl, cp_k, k3, g, ↓if_neg z_1, if_neg z_1, g3, ↓if_true, if_true, rX_0]
    | inr a =>
      rw [e] at g2
      obtain ⟨F', P', g3, q⟩ := g2
      refine ⟨F', P', ?_, q⟩
      rw [dM_of (Nat.le_of_ble_eq_true rfl)]
      simp -implicitDefEqProofs only [D_350_0, k_350_0, D_350_21, k_350_21, D_350_22, k_350_22, R_350, v_aload_n, v_callV2, aft_v, aft_n, g_if_eq, v_iload_n, v_callV3, g_iconst, g_goto, g_ireturn, entL, getL, setL, kL_i, kL_r, isI_s, isR_s, isJ_s, gV_s, iV_i, cs0, cs1, cs2, cs3, cs4, dn_nil, kd_si, kd_sl, kd_sw, mr_si, mr_sl, mr_sw, ml_si, ml_sw, mi_sl, cp_k, k3, g, ↓if_neg z_1, if_neg z_1, g3, rX_1]
-- names
def pNa (T : Nat → Nat) (t : Tok) : Bool := (fnd (isK T t) 15 0).isNone && decide (t.2.2.1 = 2)
theorem R_369 : PG.2.1 369 = (some .boolean) := rfl
theorem s_369 (O : PO h tk pr d c) (X : TXT h n T) (W : WRD h) (hF : TK F n t) (hi' : tOk n t) : dM PG 369 [.ref pr] (h.cp tk pr d c F P D R) = some (.inl (some (.int (b2i (pNa T t)))), h.cp tk pr d c F P D R) := by
  have k3 : h.kd pr = some (.inl 3) := O.2.2.2.2.1
  have k1 : h.kd tk = some (.inl 6) := O.2.1
  have r0 : h.mr pr 0 = some tk := O.2.2.2.2.2.1
  have f4 := hF.2.2.2.1
  obtain ⟨w0, w91, wa⟩ := id W
  rw [dM_of (Nat.le_of_ble_eq_true rfl)]
  simp -implicitDefEqProofs only [D_369_0, k_369_0, g_getstatic, g_astore_n, g_astore_nN, v_aload_n, v_alen, isA_0, lnA_0, g_istore_n, g_iconst, entL, getL, setL, kL_i, kL_r, isI_s, isR_s, isJ_s, gV_s, iV_i, cs0, cs1, cs2, cs3, cs4, dn_nil, kd_si, kd_sl, kd_sw, mr_si, mr_sl, mr_sw, ml_si, ml_sw, mi_sl, cp_k, w91]
  have g := lf (P := PG) (y := 369) (pc := 9) (n := 15) (p := isK T t) (h := h.cp tk pr d c F P D R) (L := fun i tl => some (.ref pr) :: some (.ref 91) :: some (.int (Int32.ofNat 15)) :: some (.int (Int32.ofNat i)) :: tl) (r := fun o => some (.inl (some (.int (b2i (o.isNone && decide (t.2.2.1 = 2))))), h.cp tk pr d c F P D R)) (by
    intro i tl hi ci
    refine ⟨some (.ref (76 + i)) :: tl.tail, ?_⟩
    have e : ¬ Int32.ofNat (15) ≤ Int32.ofNat (i) := by rw [i32_le (by omega) (by omega)]; omega
    have s1 : Int32.ofNat (i) + 1 = Int32.ofNat (i + 1) := i32_add (b := 1)
    have b_1 : inb (Int32.ofNat (i)) 15 = true := inb_nat (by omega) (by decide)
    have n_1 : (Int32.ofNat (i)).toNatClampNeg = i := i32_nat (by omega)
    obtain ⟨w1, w2, -⟩ := w0 i hi
    have wi := wa i hi
    have g := p_366 (P := P) (D := D) (R := R) O X W hF hi'.1 hi
    rw [ci] at g
    rw [D_369_9]
    simp -implicitDefEqProofs only [D_369_0, k_369_0, k_369_9, D_369_36, k_369_36, D_369_42, k_369_42, D_369_57, k_369_57, D_369_58, k_369_58, R_369, g_getstatic, g_astore_n, g_astore_nN, v_aload_n, v_alen, isA_0, lnA_0, g_istore_n, g_iconst, v_iload_n, g_icmp_ge, v_aaload, inA_0, inA_1, rf_s, g_astore, g_astoreN, g_getfield, sv_o, g_getfieldS, v_aload, v_callV2, aft_v, aft_n, g_if_eq, g_ireturn, v_iinc, g_goto, sv_i, g_icmp_ne, entL, getL, setL, kL_i, kL_r, isI_s, isR_s, isJ_s, gV_s, iV_i, cs0, cs1, cs2, cs3, cs4, dn_nil, kd_si, kd_sl, kd_sw, mr_si, mr_sl, mr_sw, ml_si, ml_sw, mi_sl, cp_k, cp_r, k3, k1, r0, w91, ↓if_neg e, if_neg e, b_1, n_1, wi, setL_0, w1, w2, g, b2i_0, ↓if_true, if_true, s1]) (by
    intro i tl hi ci
    have e : ¬ Int32.ofNat (15) ≤ Int32.ofNat (i) := by rw [i32_le (by omega) (by omega)]; omega
    have b_1 : inb (Int32.ofNat (i)) 15 = true := inb_nat (by omega) (by decide)
    have n_1 : (Int32.ofNat (i)).toNatClampNeg = i := i32_nat (by omega)
    obtain ⟨w1, w2, -⟩ := w0 i hi
    have wi := wa i hi
    have g := p_366 (P := P) (D := D) (R := R) O X W hF hi'.1 hi
    rw [ci] at g
    rw [D_369_9]
    simp -implicitDefEqProofs only [D_369_0, k_369_0, k_369_9, D_369_36, k_369_36, D_369_42, k_369_42, D_369_57, k_369_57, D_369_58, k_369_58, R_369, g_getstatic, g_astore_n, g_astore_nN, v_aload_n, v_alen, isA_0, lnA_0, g_istore_n, g_iconst, v_iload_n, g_icmp_ge, v_aaload, inA_0, inA_1, rf_s, g_astore, g_astoreN, g_getfield, sv_o, g_getfieldS, v_aload, v_callV2, aft_v, aft_n, g_if_eq, g_ireturn, v_iinc, g_goto, sv_i, g_icmp_ne, entL, getL, setL, kL_i, kL_r, isI_s, isR_s, isJ_s, gV_s, iV_i, cs0, cs1, cs2, cs3, cs4, dn_nil, kd_si, kd_sl, kd_sw, mr_si, mr_sl, mr_sw, ml_si, ml_sw, mi_sl, cp_k, cp_r, k3, k1, r0, w91, ↓if_neg e, if_neg e, b_1, n_1, wi, setL_0, w1, w2, g, b2i_1, ↓if_neg z_1, if_neg z_1, rX_0]
    rfl) (by
    intro tl
    have e : Int32.ofNat (15) ≤ Int32.ofNat (15) := by rw [i32_le (by omega) (by omega)]; omega
    rw [D_369_9]
    by_cases c2 : t.2.2.1 = 2
    · have e2 : Int32.ofNat t.2.2.1 = 2 := by rw [c2]; rfl
      have z : (Option.isNone (none : Option Nat) && decide (t.2.2.1 = 2)) = true := by rw [decide_eq_true c2]; rfl
      rw [z, b2i_1]
      simp -implicitDefEqProofs only [D_369_0, k_369_0, k_369_9, D_369_36, k_369_36, D_369_42, k_369_42, D_369_57, k_369_57, D_369_58, k_369_58, R_369, g_getstatic, g_astore_n, g_astore_nN, v_aload_n, v_alen, isA_0, lnA_0, g_istore_n, g_iconst, v_iload_n, g_icmp_ge, v_aaload, inA_0, inA_1, rf_s, g_astore, g_astoreN, g_getfield, sv_o, g_getfieldS, v_aload, v_callV2, aft_v, aft_n, g_if_eq, g_ireturn, v_iinc, g_goto, sv_i, g_icmp_ne, entL, getL, setL, kL_i, kL_r, isI_s, isR_s, isJ_s, gV_s, iV_i, cs0, cs1, cs2, cs3, cs4, dn_nil, kd_si, kd_sl, kd_sw, mr_si, mr_sl, mr_sw, ml_si, ml_sw, mi_sl, cp_k, cp_r, k3, k1, r0, ↓if_pos e, if_pos e, cp_t, f4, ↓if_pos e2, if_pos e2, rX_1]
    · have e2 : ¬ Int32.ofNat t.2.2.1 = 2 := by
        show ¬ Int32.ofNat t.2.2.1 = Int32.ofNat 2
        exact i32_ne (by have := hi'.2.2; omega) (by omega) c2
      have z : (Option.isNone (none : Option Nat) && decide (t.2.2.1 = 2)) = false := by rw [decide_eq_false c2]; rfl
      rw [z, b2i_0]
      simp -implicitDefEqProofs only [D_369_0, k_369_0, k_369_9, D_369_36, k_369_36, D_369_42, k_369_42, D_369_57, k_369_57, D_369_58, k_369_58, R_369, g_getstatic, g_astore_n, g_astore_nN, v_aload_n, v_alen, isA_0, lnA_0, g_istore_n, g_iconst, v_iload_n, g_icmp_ge, v_aaload, inA_0, inA_1, rf_s, g_astore, g_astoreN, g_getfield, sv_o, g_getfieldS, v_aload, v_callV2, aft_v, aft_n, g_if_eq, g_ireturn, v_iinc, g_goto, sv_i, g_icmp_ne, entL, getL, setL, kL_i, kL_r, isI_s, isR_s, isJ_s, gV_s, iV_i, cs0, cs1, cs2, cs3, cs4, dn_nil, kd_si, kd_sl, kd_sw, mr_si, mr_sl, mr_sw, ml_si, ml_sw, mi_sl, cp_k, cp_r, k3, k1, r0, ↓if_pos e, if_pos e, cp_t, f4, ↓if_neg e2, if_neg e2, rX_0]) 15 0 [] (by omega)
  exact g
/-- cells that the parser does not write -/
def OUT (tk pr d c a : Nat) : Prop := a ≠ tk ∧ a ≠ pr ∧ (a < d ∨ d + 7 ≤ a) ∧ (a < c ∨ c + 19 ≤ a)
/-- the names of the draft's species: n letters each -/
def NMS (h : Mm) (tk pr d c ns : Nat) (nm : Nat → Nat × (Nat → Nat)) : Prop := ∀ k, k < ns → ∃ p q, h.mr (d + 3 + k) 0 = some p ∧ STR h p q (nm k).1 (nm k).2 ∧ OUT tk pr d c p ∧ OUT tk pr d c q ∧ p < h.sz ∧ q < h.sz
def pKi (T : Nat → Nat) (nm : Nat → Nat × (Nat → Nat)) (ns : Nat) (t : Tok) : Option Nat := fnd (fun k => txB T t (nm k).1 (nm k).2) ns 0
theorem cp_str3 {p q m : Nat} {ch : Nat → Nat} (S : STR h p q m ch) (hp : OUT tk pr d c p) (hq : OUT tk pr d c q) : STR (h.cp tk pr d c F P D R) p q m ch := by
  obtain ⟨s1, s2, s3, s4, s5⟩ := S
  refine ⟨s1, ?_, s3, s4, fun k hk => ?_⟩
  · rw [cp_o hp.1 hp.2.1 hp.2.2.1 hp.2.2.2, s2]
  · rw [cp_o hq.1 hq.2.1 hq.2.2.1 hq.2.2.2]; exact s5 k hk
end PAS
