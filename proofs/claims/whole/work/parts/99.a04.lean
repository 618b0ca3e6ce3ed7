-- ===== the class: words of the text =====
theorem sb_neg {t : Nat} (ht : t < 256) (h : 128 ≤ t) : sb8 t < 0 := by
  have : ∀ j : Fin 256, 128 ≤ j.val → sb8 j.val < 0 := by decide +kernel
  exact this ⟨t, ht⟩ h
theorem sb_eq {t c : Nat} (ht : t < 256) (hc : c < 128) : sb8 t = Int32.ofNat c ↔ t = c := by
  constructor
  · intro e
    by_cases h : t < 128
    · rw [(sb_ok ht).2.2.2.2.2.2 h] at e
      exact Classical.byContradiction (fun q => i32_ne (by omega) (by omega) q e)
    · exfalso
      have h1 := sb_neg ht (by omega)
      rw [e] at h1
      exact i32_0n (by omega) h1
  · intro e
    subst e
    exact (sb_ok ht).2.2.2.2.2.2 hc
/-- the token's letters are these -/
def txB (T : Nat → Nat) (t : Tok) (m : Nat) (ch : Nat → Nat) : Bool := decide (m = t.2.1 - t.1) && (fnd (fun i => decide (T (t.1 + i) ≠ ch i)) m 0).isNone
theorem R_366 : PG.2.1 366 = (some .boolean) := rfl
theorem m_366 {M : Mm} {tk n p q m : Nat} {T ch : Nat → Nat} {t : Tok} (H : TKO M tk n T) (hF : TK (M.mi tk) n t) (h1 : t.1 ≤ t.2.1) (h2 : t.2.1 ≤ n) (S : STR M p q m ch) : dM PG 366 [.ref tk, .ref p] M = some (.inl (some (.int (b2i (txB T t m ch)))), M) := by
  obtain ⟨k1, r0, k2, hk, hn, hT⟩ := H
  obtain ⟨f1, f2, f3, f4, f5⟩ := hF
  have gl := m_244 S
  have hm := S.2.2.2.1
  have sub1 : Int32.ofNat t.2.1 - Int32.ofNat t.1 = Int32.ofNat (t.2.1 - t.1) := i32_sub h1
  have kp : M.kd p = some (.inl 9) ∨ M.kd p = some (.inl (9 + 1000)) := by
    obtain ⟨-, -, ⟨p1, -⟩ | ⟨p1, -⟩, -⟩ := S
    · exact Or.inl p1
    · exact Or.inr p1
  rw [dM_of (Nat.le_of_ble_eq_true rfl)]
  by_cases c : m = t.2.1 - t.1
  · have c2 : Int32.ofNat m = Int32.ofNat (t.2.1 - t.1) := by rw [c]
    have main : ∀ o, dB PG 366 20 [some (.ref tk), some (.ref p), some (.int (Int32.ofNat 0))] [] M = o → o = dB PG 366 20 [some (.ref tk), some (.ref p), some (.int (Int32.ofNat 0))] [] M := fun o e => e.symm
    have g := lf (P := PG) (y := 366) (pc := 20) (n := m) (p := fun i => decide (T (t.1 + i) ≠ ch i)) (h := M) (L := fun i tl => some (.ref tk) :: some (.ref p) :: some (.int (Int32.ofNat i)) :: tl) (r := fun o => some (.inl (some (.int (b2i o.isNone))), M)) (by
      intro i tl hi ci
      refine ⟨tl, ?_⟩
      have e : ¬ Int32.ofNat (m) ≤ Int32.ofNat (i) := by rw [i32_le (by omega) (by omega)]; omega
      have e2 : ¬ Int32.ofNat (n) ≤ Int32.ofNat (t.1 + i) := by rw [i32_le (by omega) (by omega)]; omega
      have s1 : Int32.ofNat (i) + 1 = Int32.ofNat (i + 1) := i32_add (b := 1)
      have b_1 : inb (Int32.ofNat (t.1 + i)) 1500 = true := inb_nat (by omega) (by decide)
      have n_1 : (Int32.ofNat (t.1 + i)).toNatClampNeg = t.1 + i := i32_nat (by omega)
      obtain ⟨t1, t2⟩ := hT (t.1 + i) (by omega)
      obtain ⟨u1, -⟩ := S.2.2.2.2 i hi
      have eq : T (t.1 + i) = ch i := Classical.not_not.mp (of_decide_eq_false ci)
      have c3 : sb8 (T (t.1 + i)) = Int32.ofNat (ch i) := (sb_eq t1 u1).mpr eq
      have g2 := m_245 S hi
      rw [D_366_20]
      rcases kp with kp | kp
      · simp -implicitDefEqProofs only [D_366_0, k_366_0, D_366_18, k_366_18, k_366_20, D_366_62, k_366_62, D_366_68, k_366_68, R_366, v_aload_n, v_callV1, aft_v, aft_n, v_callVS1, g_getfield, sv_i, rf_s, g_getfieldS, g_isub, g_icmp_eq, g_iconst, g_ireturn, g_istore_n, v_iload_n, g_icmp_ge, g_iadd, sv_a, v_baload, inB_0, inB_1, v_callV2, v_callVS2, v_iinc, g_goto, entL, getL, setL, kL_i, kL_r, isI_s, isR_s, isJ_s, gV_s, iV_i, cs0, cs1, cs2, cs3, cs4, dn_nil, kd_si, kd_sl, kd_sw, mr_si, mr_sl, mr_sw, ml_si, ml_sw, mi_sl, k1, r0, k2, kp, gl, f1, f2, ↓if_neg e, if_neg e, i32_add, ↓if_neg e2, if_neg e2, b_1, n_1, t2, g2, ↓if_pos c3, if_pos c3, s1]
      · simp -implicitDefEqProofs only [D_366_0, k_366_0, D_366_18, k_366_18, k_366_20, D_366_62, k_366_62, D_366_68, k_366_68, R_366, v_aload_n, v_callV1, aft_v, aft_n, v_callVS1, g_getfield, sv_i, rf_s, g_getfieldS, g_isub, g_icmp_eq, g_iconst, g_ireturn, g_istore_n, v_iload_n, g_icmp_ge, g_iadd, sv_a, v_baload, inB_0, inB_1, v_callV2, v_callVS2, v_iinc, g_goto, entL, getL, setL, kL_i, kL_r, isI_s, isR_s, isJ_s, gV_s, iV_i, cs0, cs1, cs2, cs3, cs4, dn_nil, kd_si, kd_sl, kd_sw, mr_si, mr_sl, mr_sw, ml_si, ml_sw, mi_sl, k1, r0, k2, kp, gl, f1, f2, ↓if_neg e, if_neg e, i32_add, ↓if_neg e2, if_neg e2, b_1, n_1, t2, g2, ↓if_pos c3, if_pos c3, s1]) (by
      intro i tl hi ci
      have e : ¬ Int32.ofNat (m) ≤ Int32.ofNat (i) := by rw [i32_le (by omega) (by omega)]; omega
      have e2 : ¬ Int32.ofNat (n) ≤ Int32.ofNat (t.1 + i) := by rw [i32_le (by omega) (by omega)]; omega
      have b_1 : inb (Int32.ofNat (t.1 + i)) 1500 = true := inb_nat (by omega) (by decide)
      have n_1 : (Int32.ofNat (t.1 + i)).toNatClampNeg = t.1 + i := i32_nat (by omega)
      obtain ⟨t1, t2⟩ := hT (t.1 + i) (by omega)
      obtain ⟨u1, -⟩ := S.2.2.2.2 i hi
      have ne : T (t.1 + i) ≠ ch i := of_decide_eq_true ci
      have c3 : ¬ sb8 (T (t.1 + i)) = Int32.ofNat (ch i) := fun q => ne ((sb_eq t1 u1).mp q)
      have g2 := m_245 S hi
      rw [D_366_20]
      rcases kp with kp | kp
      · simp -implicitDefEqProofs only [D_366_0, k_366_0, D_366_18, k_366_18, k_366_20, D_366_62, k_366_62, D_366_68, k_366_68, R_366, v_aload_n, v_callV1, aft_v, aft_n, v_callVS1, g_getfield, sv_i, rf_s, g_getfieldS, g_isub, g_icmp_eq, g_iconst, g_ireturn, g_istore_n, v_iload_n, g_icmp_ge, g_iadd, sv_a, v_baload, inB_0, inB_1, v_callV2, v_callVS2, v_iinc, g_goto, entL, getL, setL, kL_i, kL_r, isI_s, isR_s, isJ_s, gV_s, iV_i, cs0, cs1, cs2, cs3, cs4, dn_nil, kd_si, kd_sl, kd_sw, mr_si, mr_sl, mr_sw, ml_si, ml_sw, mi_sl, k1, r0, k2, kp, gl, f1, f2, ↓if_neg e, if_neg e, i32_add, ↓if_neg e2, if_neg e2, b_1, n_1, t2, g2, ↓if_neg c3, if_neg c3, rX_0]
        rfl
      · simp -implicitDefEqProofs only [D_366_0, k_366_0, D_366_18, k_366_18, k_366_20, D_366_62, k_366_62, D_366_68, k_366_68, R_366, v_aload_n, v_callV1, aft_v, aft_n, v_callVS1, g_getfield, sv_i, rf_s, g_getfieldS, g_isub, g_icmp_eq, g_iconst, g_ireturn, g_istore_n, v_iload_n, g_icmp_ge, g_iadd, sv_a, v_baload, inB_0, inB_1, v_callV2, v_callVS2, v_iinc, g_goto, entL, getL, setL, kL_i, kL_r, isI_s, isR_s, isJ_s, gV_s, iV_i, cs0, cs1, cs2, cs3, cs4, dn_nil, kd_si, kd_sl, kd_sw, mr_si, mr_sl, mr_sw, ml_si, ml_sw, mi_sl, k1, r0, k2, kp, gl, f1, f2, ↓if_neg e, if_neg e, i32_add, ↓if_neg e2, if_neg e2, b_1, n_1, t2, g2, ↓if_neg c3, if_neg c3, rX_0]
        rfl) (by
      intro tl
      have e : Int32.ofNat (m) ≤ Int32.ofNat (m) := by rw [i32_le (by omega) (by omega)]; omega
      rw [D_366_20]
      rcases kp with kp | kp
      · simp -implicitDefEqProofs only [D_366_0, k_366_0, D_366_18, k_366_18, k_366_20, D_366_62, k_366_62, D_366_68, k_366_68, R_366, v_aload_n, v_callV1, aft_v, aft_n, v_callVS1, g_getfield, sv_i, rf_s, g_getfieldS, g_isub, g_icmp_eq, g_iconst, g_ireturn, g_istore_n, v_iload_n, g_icmp_ge, g_iadd, sv_a, v_baload, inB_0, inB_1, v_callV2, v_callVS2, v_iinc, g_goto, entL, getL, setL, kL_i, kL_r, isI_s, isR_s, isJ_s, gV_s, iV_i, cs0, cs1, cs2, cs3, cs4, dn_nil, kd_si, kd_sl, kd_sw, mr_si, mr_sl, mr_sw, ml_si, ml_sw, mi_sl, k1, kp, gl, ↓if_pos e, if_pos e, rX_1]
        rfl
      · simp -implicitDefEqProofs only [D_366_0, k_366_0, D_366_18, k_366_18, k_366_20, D_366_62, k_366_62, D_366_68, k_366_68, R_366, v_aload_n, v_callV1, aft_v, aft_n, v_callVS1, g_getfield, sv_i, rf_s, g_getfieldS, g_isub, g_icmp_eq, g_iconst, g_ireturn, g_istore_n, v_iload_n, g_icmp_ge, g_iadd, sv_a, v_baload, inB_0, inB_1, v_callV2, v_callVS2, v_iinc, g_goto, entL, getL, setL, kL_i, kL_r, isI_s, isR_s, isJ_s, gV_s, iV_i, cs0, cs1, cs2, cs3, cs4, dn_nil, kd_si, kd_sl, kd_sw, mr_si, mr_sl, mr_sw, ml_si, ml_sw, mi_sl, k1, kp, gl, ↓if_pos e, if_pos e, rX_1]
        rfl) m 0 [] (by omega)
    have z : txB T t m ch = (fnd (fun i => decide (T (t.1 + i) ≠ ch i)) m 0).isNone := by
      unfold txB; rw [decide_eq_true c, Bool.true_and]
    rw [z]
    refine Eq.trans ?_ g
    rcases kp with kp | kp
    · simp -implicitDefEqProofs only [D_366_0, k_366_0, D_366_18, k_366_18, R_366, v_aload_n, v_callV1, aft_v, aft_n, v_callVS1, g_getfield, sv_i, rf_s, g_getfieldS, g_isub, g_icmp_eq, g_iconst, g_ireturn, g_istore_n, entL, getL, setL, kL_i, kL_r, isI_s, isR_s, isJ_s, gV_s, iV_i, cs0, cs1, cs2, cs3, cs4, dn_nil, kd_si, kd_sl, kd_sw, mr_si, mr_sl, mr_sw, ml_si, ml_sw, mi_sl, k1, kp, gl, f2, f3, sub1, ↓if_pos c2, if_pos c2]
      rfl
    · simp -implicitDefEqProofs only [D_366_0, k_366_0, D_366_18, k_366_18, R_366, v_aload_n, v_callV1, aft_v, aft_n, v_callVS1, g_getfield, sv_i, rf_s, g_getfieldS, g_isub, g_icmp_eq, g_iconst, g_ireturn, g_istore_n, entL, getL, setL, kL_i, kL_r, isI_s, isR_s, isJ_s, gV_s, iV_i, cs0, cs1, cs2, cs3, cs4, dn_nil, kd_si, kd_sl, kd_sw, mr_si, mr_sl, mr_sw, ml_si, ml_sw, mi_sl, k1, kp, gl, f2, f3, sub1, ↓if_pos c2, if_pos c2]
      rfl
  · have c2 : ¬ Int32.ofNat m = Int32.ofNat (t.2.1 - t.1) := i32_ne (by omega) (by omega) c
    have z : txB T t m ch = false := by
      unfold txB; rw [decide_eq_false c, Bool.false_and]
    rw [z, b2i_0]
    rcases kp with kp | kp
    · simp -implicitDefEqProofs only [D_366_0, k_366_0, R_366, v_aload_n, v_callV1, aft_v, aft_n, v_callVS1, g_getfield, sv_i, rf_s, g_getfieldS, g_isub, g_icmp_eq, g_iconst, g_ireturn, entL, getL, setL, kL_i, kL_r, isI_s, isR_s, isJ_s, gV_s, iV_i, cs0, cs1, cs2, cs3, cs4, dn_nil, kd_si, kd_sl, kd_sw, mr_si, mr_sl, mr_sw, ml_si, ml_sw, mi_sl, k1, kp, gl, f2, f3, sub1, ↓if_neg c2, if_neg c2, rX_0]
    · simp -implicitDefEqProofs only [D_366_0, k_366_0, R_366, v_aload_n, v_callV1, aft_v, aft_n, v_callVS1, g_getfield, sv_i, rf_s, g_getfieldS, g_isub, g_icmp_eq, g_iconst, g_ireturn, entL, getL, setL, kL_i, kL_r, isI_s, isR_s, isJ_s, gV_s, iV_i, cs0, cs1, cs2, cs3, cs4, dn_nil, kd_si, kd_sl, kd_sw, mr_si, mr_sl, mr_sw, ml_si, ml_sw, mi_sl, k1, kp, gl, f2, f3, sub1, ↓if_neg c2, if_neg c2, rX_0]
-- ===== the words =====
def kw (i : Nat) : String := (["grader", "reference", "margin", "limit", "pool", "ice", "stop", "species", "target", "quota", "boxes", "price", "item", "and", "vote"]).getD i ""
def kwN (i : Nat) : Nat := (kw i).length
def kwC (i k : Nat) : Nat := wC (kw i) k
def WRD (h : Mm) : Prop := (∀ i, i < 15 → h.kd (76 + i) = some (.inl (11 + 1000)) ∧ h.mr (76 + i) 0 = some (46 + 2 * i) ∧ STR h (46 + 2 * i) (47 + 2 * i) (kwN i) (kwC i)) ∧ h.kd 91 = some (.inr (.array (.object "FishGrader$Word"), 15)) ∧ ∀ i, i < 15 → h.mr 91 i = some (76 + i)
/-- the token is the keyword i -/
def isK (T : Nat → Nat) (t : Tok) (i : Nat) : Bool := txB T t (kwN i) (kwC i)
section PAR
variable {h : Mm} {tk pr d c n : Nat} {T : Nat → Nat} {F P : Nat → Int32} {D R : Nat → Nat → Int32} {t : Tok}
theorem cp_str (O : PO h tk pr d c) {p q m : Nat} {ch : Nat → Nat} (S : STR h p q m ch) (hp : p < 200) (hq : q < 200) : STR (h.cp tk pr d c F P D R) p q m ch := by
  obtain ⟨s1, s2, s3, s4, s5⟩ := S
  obtain ⟨j, -, -, -, -, -, -, -, -, -, o1, o2, o3, o4⟩ := O
  have j6 := j.2.2.2.2.2
  refine ⟨s1, ?_, s3, s4, fun k hk => ?_⟩
  · rw [cp_o (by omega) (by omega) (by omega) (by omega), s2]
  · rw [cp_o (by omega) (by omega) (by omega) (by omega)]; exact s5 k hk
/-- a token within the text -/
def tIn (n : Nat) (t : Tok) : Prop := t.1 ≤ t.2.1 ∧ t.2.1 ≤ n
theorem tok_in {p : Nat} (hp : p ≤ n) : tIn n (tok T n p) := ⟨(tok_le hp).2.1, (tok_le hp).2.2⟩
theorem p_366 (O : PO h tk pr d c) (X : TXT h n T) (W : WRD h) (hF : TK F n t) (hi : tIn n t) {i : Nat} (h15 : i < 15) : dM PG 366 [.ref tk, .ref (46 + 2 * i)] (h.cp tk pr d c F P D R) = some (.inl (some (.int (b2i (isK T t i)))), h.cp tk pr d c F P D R) := m_366 (po_tko O X) (by rw [cp_t]; exact hF) hi.1 hi.2 (cp_str O (W.1 i h15).2.2 (by omega) (by omega))
theorem p_326 (O : PO h tk pr d c) (X : TXT h n T) (hF : TK F n t) (hi : tIn n t) : ∃ F', dM PG 326 [.ref tk] (h.cp tk pr d c F P D R) = some (.inl none, h.cp tk pr d c F' P D R) ∧ TK F' n (tok T n t.2.1) := by
  obtain ⟨F', g, K⟩ := m_326 (po_tko (F := F) (P := P) (D := D) (R := R) O X) hi.2 (by rw [cp_t]; exact hF.1) (by rw [cp_t]; exact hF.2.2.1)
  rw [cw_t] at g
  exact ⟨F', g, K⟩
theorem R_356 : PG.2.1 356 = (some .boolean) := rfl
theorem p_356 (O : PO h tk pr d c) (hF : TK F n t) {code : Int32} : dM PG 356 [.ref pr, .int code] (h.cp tk pr d c F P D R) = some (.inl (some (.int 0)), h.cp tk pr d c F (zu (zu P 4 code) 5 (Int32.ofNat t.1)) D R) := by
  obtain ⟨J, k1, r1, k2, k3, r0, rd, rc, U, S, o⟩ := O
  have f2 := hF.2.1
  rw [dM_of (Nat.le_of_ble_eq_true rfl)]
  simp -implicitDefEqProofs only [D_356_0, k_356_0, R_356, v_aload_n, v_iload_n, g_put_i, g_getfield, sv_o, rf_s, g_getfieldS, sv_i, g_iconst, g_ireturn, entL, getL, setL, kL_i, kL_r, isI_s, isR_s, isJ_s, gV_s, iV_i, cs0, cs1, cs2, cs3, cs4, dn_nil, kd_si, kd_sl, kd_sw, mr_si, mr_sl, mr_sw, ml_si, ml_sw, mi_sl, cp_k, cp_r, k3, k1, r0, cp_t, f2, cs_p J, rX_0]
theorem R_351 : PG.2.1 351 = (some .boolean) := rfl
theorem p_351 (O : PO h tk pr d c) (X : TXT h n T) (W : WRD h) (hF : TK F n t) (hi : tIn n t) {i : Nat} (h15 : i < 15) : dM PG 351 [.ref pr, .ref (76 + i)] (h.cp tk pr d c F P D R) = some (.inl (some (.int (b2i (isK T t i)))), h.cp tk pr d c F P D R) := by
  have g := p_366 (P := P) (D := D) (R := R) O X W hF hi h15
  obtain ⟨J, k1, r1, k2, k3, r0, rd, rc, U, S, o⟩ := O
  obtain ⟨w1, w2, -⟩ := W.1 i h15
  rw [dM_of (Nat.le_of_ble_eq_true rfl)]
  cases c : isK T t i with
  | true =>
    rw [c] at g
    simp -implicitDefEqProofs only [D_351_0, k_351_0, R_351, v_aload_n, g_getfield, sv_o, rf_s, g_getfieldS, v_callV2, aft_v, aft_n, g_ireturn, entL, getL, setL, kL_i, kL_r, isI_s, isR_s, isJ_s, gV_s, iV_i, cs0, cs1, cs2, cs3, cs4, dn_nil, kd_si, kd_sl, kd_sw, mr_si, mr_sl, mr_sw, ml_si, ml_sw, mi_sl, cp_k, cp_r, k3, k1, r0, w1, w2, g, b2i_1, rX_1]
  | false =>
    rw [c] at g
    simp -implicitDefEqProofs only [D_351_0, k_351_0, R_351, v_aload_n, g_getfield, sv_o, rf_s, g_getfieldS, v_callV2, aft_v, aft_n, g_ireturn, entL, getL, setL, kL_i, kL_r, isI_s, isR_s, isJ_s, gV_s, iV_i, cs0, cs1, cs2, cs3, cs4, dn_nil, kd_si, kd_sl, kd_sw, mr_si, mr_sl, mr_sw, ml_si, ml_sw, mi_sl, cp_k, cp_r, k3, k1, r0, w1, w2, g, b2i_0, rX_0]
theorem R_349 : PG.2.1 349 = (some .boolean) := rfl
theorem p_349n (O : PO h tk pr d c) (X : TXT h n T) (W : WRD h) (hF : TK F n t) (hi : tIn n t) {i : Nat} (h15 : i < 15) (cc : isK T t i = false) : dM PG 349 [.ref pr, .ref (76 + i)] (h.cp tk pr d c F P D R) = some (.inl (some (.int 0)), h.cp tk pr d c F (zu (zu P 4 1) 5 (Int32.ofNat t.1)) D R) := by
  have g := p_366 (P := P) (D := D) (R := R) O X W hF hi h15
  rw [cc] at g
  have g2 := p_356 (P := P) (D := D) (R := R) O hF (code := 1)
  obtain ⟨J, k1, r1, k2, k3, r0, rd, rc, U, S, o⟩ := O
  obtain ⟨w1, w2, -⟩ := W.1 i h15
  rw [dM_of (Nat.le_of_ble_eq_true rfl)]
  simp -implicitDefEqProofs only [D_349_0, k_349_0, D_349_20, k_349_20, R_349, v_aload_n, g_getfield, sv_o, rf_s, g_getfieldS, v_callV2, aft_v, aft_n, g_if_ne, g_iconst, g_ireturn, v_callV1, entL, getL, setL, kL_i, kL_r, isI_s, isR_s, isJ_s, gV_s, iV_i, cs0, cs1, cs2, cs3, cs4, dn_nil, kd_si, kd_sl, kd_sw, mr_si, mr_sl, mr_sw, ml_si, ml_sw, mi_sl, cp_k, cp_r, k3, k1, r0, w1, w2, g, b2i_0, ↓if_true, if_true, g2, rX_0]
theorem p_349y (O : PO h tk pr d c) (X : TXT h n T) (W : WRD h) (hF : TK F n t) (hi : tIn n t) {i : Nat} (h15 : i < 15) (cc : isK T t i = true) : ∃ F', dM PG 349 [.ref pr, .ref (76 + i)] (h.cp tk pr d c F P D R) = some (.inl (some (.int 1)), h.cp tk pr d c F' P D R) ∧ TK F' n (tok T n t.2.1) := by
  have g := p_366 (P := P) (D := D) (R := R) O X W hF hi h15
  rw [cc] at g
  obtain ⟨F', g2, K⟩ := p_326 (P := P) (D := D) (R := R) O X hF hi
  refine ⟨F', ?_, K⟩
  obtain ⟨J, k1, r1, k2, k3, r0, rd, rc, U, S, o⟩ := O
  obtain ⟨w1, w2, -⟩ := W.1 i h15
  rw [dM_of (Nat.le_of_ble_eq_true rfl)]
  simp -implicitDefEqProofs only [D_349_0, k_349_0, D_349_20, k_349_20, R_349, v_aload_n, g_getfield, sv_o, rf_s, g_getfieldS, v_callV2, aft_v, aft_n, g_if_ne, g_iconst, g_ireturn, v_callV1, entL, getL, setL, kL_i, kL_r, isI_s, isR_s, isJ_s, gV_s, iV_i, cs0, cs1, cs2, cs3, cs4, dn_nil, kd_si, kd_sl, kd_sw, mr_si, mr_sl, mr_sw, ml_si, ml_sw, mi_sl, cp_k, cp_r, k3, k1, r0, w1, w2, g, b2i_1, ↓if_neg z_1, if_neg z_1, g2, rX_1]
theorem R_367 : PG.2.1 367 = (some .boolean) := rfl
/-- the number here: its error, or none -/
def nuE (lo hi : Nat) (t : Tok) : Nat := if t.2.2.1 = 3 then (if t.2.2.2 < lo ∨ hi < t.2.2.2 then 2 else 0) else 1
theorem p_367n (O : PO h tk pr d c) (hF : TK F n t) {lo hi : Nat} (hlo : lo < 2147483648) (hhi : hi < 2147483648) (hv : t.2.2.2 < 2147483648) (hk : t.2.2.1 < 5) (cc : nuE lo hi t ≠ 0) : dM PG 367 [.ref pr, .int (Int32.ofNat lo), .int (Int32.ofNat hi)] (h.cp tk pr d c F P D R) = some (.inl (some (.int 0)), h.cp tk pr d c F (zu (zu P 4 (Int32.ofNat (nuE lo hi t))) 5 (Int32.ofNat t.1)) D R) := by
  have g1 := p_356 (P := P) (D := D) (R := R) O hF (code := 1)
  have g2 := p_356 (P := P) (D := D) (R := R) O hF (code := 2)
  obtain ⟨J, k1, r1, k2, k3, r0, rd, rc, U, S, o⟩ := O
  obtain ⟨f1, f2, f3, f4, f5⟩ := hF
  unfold nuE at cc ⊢
  rw [dM_of (Nat.le_of_ble_eq_true rfl)]
  by_cases c3 : t.2.2.1 = 3
  · have e3 : Int32.ofNat t.2.2.1 = 3 := by rw [c3]; rfl
    have f5' := f5 c3
    rw [if_pos c3] at cc ⊢
    by_cases c4 : t.2.2.2 < lo ∨ hi < t.2.2.2
    · rw [if_pos c4, show Int32.ofNat 2 = 2 from rfl]
      by_cases c5 : t.2.2.2 < lo
      · skip
        have l5 : Int32.ofNat (t.2.2.2) < Int32.ofNat (lo) := by rw [i32_lt (by omega) (by omega)]; omega
        simp -implicitDefEqProofs only [D_367_0, k_367_0, D_367_17, k_367_17, D_367_39, k_367_39, D_367_45, k_367_45, R_367, v_aload_n, g_getfield, sv_o, rf_s, g_getfieldS, sv_i, g_iconst, g_icmp_eq, v_callV2, aft_v, aft_n, g_ireturn, v_iload_n, g_icmp_lt, g_icmp_le, g_put_i, v_callV1, entL, getL, setL, kL_i, kL_r, isI_s, isR_s, isJ_s, gV_s, iV_i, cs0, cs1, cs2, cs3, cs4, dn_nil, kd_si, kd_sl, kd_sw, mr_si, mr_sl, mr_sw, ml_si, ml_sw, mi_sl, cp_k, cp_r, k3, k1, r0, cp_t, f4, f5', ↓if_pos e3, if_pos e3, ↓if_pos l5, if_pos l5, g2, rX_0]
      · skip
        have l5 : ¬ Int32.ofNat (t.2.2.2) < Int32.ofNat (lo) := by rw [i32_lt (by omega) (by omega)]; omega
        have l6 : ¬ Int32.ofNat (t.2.2.2) ≤ Int32.ofNat (hi) := by rw [i32_le (by omega) (by omega)]; omega
        simp -implicitDefEqProofs only [D_367_0, k_367_0, D_367_17, k_367_17, D_367_39, k_367_39, D_367_45, k_367_45, R_367, v_aload_n, g_getfield, sv_o, rf_s, g_getfieldS, sv_i, g_iconst, g_icmp_eq, v_callV2, aft_v, aft_n, g_ireturn, v_iload_n, g_icmp_lt, g_icmp_le, g_put_i, v_callV1, entL, getL, setL, kL_i, kL_r, isI_s, isR_s, isJ_s, gV_s, iV_i, cs0, cs1, cs2, cs3, cs4, dn_nil, kd_si, kd_sl, kd_sw, mr_si, mr_sl, mr_sw, ml_si, ml_sw, mi_sl, cp_k, cp_r, k3, k1, r0, cp_t, f4, f5', ↓if_pos e3, if_pos e3, ↓if_neg l5, if_neg l5, ↓if_neg l6, if_neg l6, g2, rX_0]
    · rw [if_neg c4] at cc
      exact absurd rfl cc
  · have e3 : ¬ Int32.ofNat t.2.2.1 = 3 := by
      show ¬ Int32.ofNat t.2.2.1 = Int32.ofNat 3
      exact i32_ne (by omega) (by omega) c3
    rw [if_neg c3, show Int32.ofNat 1 = 1 from rfl]
    simp -implicitDefEqProofs only [D_367_0, k_367_0, D_367_17, k_367_17, D_367_39, k_367_39, D_367_45, k_367_45, R_367, v_aload_n, g_getfield, sv_o, rf_s, g_getfieldS, sv_i, g_iconst, g_icmp_eq, v_callV2, aft_v, aft_n, g_ireturn, v_iload_n, g_icmp_lt, g_icmp_le, g_put_i, v_callV1, entL, getL, setL, kL_i, kL_r, isI_s, isR_s, isJ_s, gV_s, iV_i, cs0, cs1, cs2, cs3, cs4, dn_nil, kd_si, kd_sl, kd_sw, mr_si, mr_sl, mr_sw, ml_si, ml_sw, mi_sl, cp_k, cp_r, k3, k1, r0, cp_t, f4, ↓if_neg e3, if_neg e3, g1, rX_0]
theorem p_367y (O : PO h tk pr d c) (X : TXT h n T) (hF : TK F n t) (hi' : tIn n t) {lo hi : Nat} (hlo : lo < 2147483648) (hhi : hi < 2147483648) (hv : t.2.2.2 < 2147483648) (cc : nuE lo hi t = 0) : ∃ F', dM PG 367 [.ref pr, .int (Int32.ofNat lo), .int (Int32.ofNat hi)] (h.cp tk pr d c F P D R) = some (.inl (some (.int 1)), h.cp tk pr d c F' (zu P 6 (Int32.ofNat t.2.2.2)) D R) ∧ TK F' n (tok T n t.2.1) ∧ lo ≤ t.2.2.2 ∧ t.2.2.2 ≤ hi := by
  obtain ⟨F', g2, K⟩ := p_326 (P := zu P 6 (Int32.ofNat t.2.2.2)) (D := D) (R := R) O X hF hi'
  obtain ⟨J, k1, r1, k2, k3, r0, rd, rc, U, S, o⟩ := O
  obtain ⟨f1, f2, f3, f4, f5⟩ := hF
  unfold nuE at cc
  by_cases c3 : t.2.2.1 = 3
  · rw [if_pos c3] at cc
    by_cases c4 : t.2.2.2 < lo ∨ hi < t.2.2.2
    · rw [if_pos c4] at cc; exact absurd cc (by decide)
    · have e3 : Int32.ofNat t.2.2.1 = 3 := by rw [c3]; rfl
      have f5' := f5 c3
      have l5 : ¬ Int32.ofNat (t.2.2.2) < Int32.ofNat (lo) := by rw [i32_lt (by omega) (by omega)]; omega
      have l6 : Int32.ofNat (t.2.2.2) ≤ Int32.ofNat (hi) := by rw [i32_le (by omega) (by omega)]; omega
      refine ⟨F', ?_, K, by omega, by omega⟩
      rw [dM_of (Nat.le_of_ble_eq_true rfl)]
      simp -implicitDefEqProofs only [D_367_0, k_367_0, D_367_17, k_367_17, D_367_39, k_367_39, D_367_45, k_367_45, R_367, v_aload_n, g_getfield, sv_o, rf_s, g_getfieldS, sv_i, g_iconst, g_icmp_eq, v_callV2, aft_v, aft_n, g_ireturn, v_iload_n, g_icmp_lt, g_icmp_le, g_put_i, v_callV1, entL, getL, setL, kL_i, kL_r, isI_s, isR_s, isJ_s, gV_s, iV_i, cs0, cs1, cs2, cs3, cs4, dn_nil, kd_si, kd_sl, kd_sw, mr_si, mr_sl, mr_sw, ml_si, ml_sw, mi_sl, cp_k, cp_r, k3, k1, r0, cp_t, f4, f5', ↓if_pos e3, if_pos e3, ↓if_neg l5, if_neg l5, ↓if_pos l6, if_pos l6, cs_p J, g2, rX_1]
  · rw [if_neg c3] at cc; exact absurd cc (by decide)
end PAR
