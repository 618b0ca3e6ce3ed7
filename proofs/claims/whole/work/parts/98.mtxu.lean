-- ===== the model: names, labels, reports =====
def kI (i : Nat) : Int32 := Int32.ofInt (40 - 5 * (i : Int))
theorem kI_s {i : Nat} (hi : i < 9) : kI i + -5 = kI (i + 1) ∧ ¬ kI i < 0 := by
  have : ∀ j : Fin 9, kI j.val + -5 = kI (j.val + 1) ∧ ¬ kI j.val < 0 := by decide
  exact this ⟨i, hi⟩
def lt5 (x : Int64) (i : Nat) : Int32 := (x >>> ((kI i).toInt64 &&& 63) &&& 31).toInt32
def nmS (le : Nat → Nat) (i : Nat) (t : Tt) : Tt := if le i = 0 then t else tC (96 + le i) t
theorem R_140 : PG.2.1 140 = none := rfl
theorem m_140 {x : Int64} {le : Nat → Nat} {n : Nat} (hle : ∀ i, i < 9 → lt5 x i = Int32.ofNat (le i) ∧ le i < 32) {h : Mm} (H : MO h) {P : Nat → Int32} {t : Tt} (R : PgR P n t) (hm : n + 9 ≤ 300) : ∃ P' n', dM PG 140 [.ref 277, .long x] (h.pg P n) = some (.inl none, h.pg P' n') ∧ PgR P' n' (fl (nmS le) 9 0 t) ∧ n' ≤ n + 9 := by
  have g := lia (A := Tt) (P := PG) (y := 140) (pc := 3) (n := 9) (o := 0) (f := nmS le) (K := fun i t' tl h' => ∃ P' n', h' = h.pg P' n' ∧ PgR P' n' t' ∧ n' ≤ n + i) (L := fun i t' tl => some (.ref 277) :: some (.long x) :: none :: some (.int (kI i)) :: tl) (by
    intro i t' tl h' _ hi hK
    obtain ⟨P', n', rfl, R', hn'⟩ := hK
    obtain ⟨s1, c1⟩ := kI_s hi
    obtain ⟨l1, l2⟩ := hle i hi
    have l1' : (x >>> ((kI i).toInt64 &&& 63) &&& 31).toInt32 = Int32.ofNat (le i) := l1
    by_cases c : le i = 0
    · have c2 : Int32.ofNat (le i) ≤ 0 := by rw [c]; decide
      refine ⟨some (.int (Int32.ofNat (le i))) :: tl.tail, h.pg P' n', ⟨P', n', rfl, ?_, by omega⟩, ?_⟩
      · unfold nmS; rw [if_pos c]; exact R'
      · rw [D_140_3]
        simp -implicitDefEqProofs only [D_140_0, k_140_0, k_140_3, D_140_31, k_140_31, D_140_37, k_140_37, R_140, g_bipush, g_istore_n, v_iload_n, g_if_lt, v_lload_n, g_lshr, g_ldc2_w, g_land, g_l2i, g_istore, v_iload, g_if_le, v_aload_n, g_iadd, v_callV2, aft_v, aft_n, v_iinc, g_goto, g_return, entL, getL, setL, kL_i, kL_r, isI_s, isR_s, isJ_s, gV_s, iV_i, cs0, cs1, cs2, cs3, cs4, dn_nil, kd_si, kd_sl, kd_sw, mr_si, mr_sl, mr_sw, ml_si, ml_sw, mi_sl, ↓if_neg c1, if_neg c1, l1', ↓if_pos c2, if_pos c2, setL_0, kL_n, s1]
    · have c2 : ¬ Int32.ofNat (le i) ≤ 0 := by
        show ¬ Int32.ofNat (le i) ≤ Int32.ofNat 0
        rw [i32_le (by omega) (by omega)]; omega
      have la : (96 : Int32) + Int32.ofNat (le i) = Int32.ofNat (96 + le i) := i32_add (a := 96)
      refine ⟨some (.int (Int32.ofNat (le i))) :: tl.tail, h.pg (zu P' n' (Int32.ofNat (96 + le i))) (n' + 1), ⟨_, _, rfl, ?_, by omega⟩, ?_⟩
      · unfold nmS; rw [if_neg c]; exact pr_c R'
      · rw [D_140_3]
        simp -implicitDefEqProofs only [D_140_0, k_140_0, k_140_3, D_140_31, k_140_31, D_140_37, k_140_37, R_140, g_bipush, g_istore_n, v_iload_n, g_if_lt, v_lload_n, g_lshr, g_ldc2_w, g_land, g_l2i, g_istore, v_iload, g_if_le, v_aload_n, g_iadd, v_callV2, aft_v, aft_n, v_iinc, g_goto, g_return, entL, getL, setL, kL_i, kL_r, isI_s, isR_s, isJ_s, gV_s, iV_i, cs0, cs1, cs2, cs3, cs4, dn_nil, kd_si, kd_sl, kd_sw, mr_si, mr_sl, mr_sw, ml_si, ml_sw, mi_sl, mk_277 H, mk_278 H, mk_279 H, mk_280 H, mk_281 H, mk_282 H, mk_283 H, mk_284 H, mk_285 H, mk_286 H, mk_287 H, mk_288 H, mk_289 H, mr_1 H, mr_11 H, mr_12 H, mr_13 H, mr_14 H, mr_15 H, mr_16 H, mr_17 H, mr_18 H, mr_19 H, mr_24 H, mr_25 H, pg_k, ↓if_neg c1, if_neg c1, l1', ↓if_neg c2, if_neg c2, la, m_139 (show n' < 300 by omega) H, setL_0, kL_n, s1]) 9 0 t [] (h.pg P n) (Nat.zero_le 0) (by omega) ⟨P, n, rfl, R, by omega⟩
  obtain ⟨tl, h', ⟨P', n', rfl, R', hn'⟩, e⟩ := g
  have ce : kI 9 < 0 := by decide
  refine ⟨P', n', ?_, R', hn'⟩
  rw [dM_of (Nat.le_of_ble_eq_true rfl)]
  simp -implicitDefEqProofs only [D_140_0, k_140_0, g_bipush, g_istore_n, entL, getL, setL, kL_i, kL_r, isI_s, isR_s, isJ_s, gV_s, iV_i, cs0, cs1, cs2, cs3, cs4, dn_nil, kd_si, kd_sl, kd_sw, mr_si, mr_sl, mr_sw, ml_si, ml_sw, mi_sl, kL_n, kL_j]
  refine Eq.trans ?_ (e.trans ?_)
  · exact congrArg (fun z => dB PG 140 3 [some (.ref 277), some (.long x), none, some (.int z)] [] (h.pg P n)) (show (40 : Int32) = kI 0 by decide)
  · rw [D_140_3]
    simp -implicitDefEqProofs only [D_140_0, k_140_0, k_140_3, D_140_31, k_140_31, D_140_37, k_140_37, R_140, g_bipush, g_istore_n, v_iload_n, g_if_lt, v_lload_n, g_lshr, g_ldc2_w, g_land, g_l2i, g_istore, v_iload, g_if_le, v_aload_n, g_iadd, v_callV2, aft_v, aft_n, v_iinc, g_goto, g_return, entL, getL, setL, kL_i, kL_r, isI_s, isR_s, isJ_s, gV_s, iV_i, cs0, cs1, cs2, cs3, cs4, dn_nil, kd_si, kd_sl, kd_sw, mr_si, mr_sl, mr_sw, ml_si, ml_sw, mi_sl, ↓if_pos ce, if_pos ce]
theorem R_4 : PG.2.1 4 = (some .int) := rfl
theorem m_4x {i : Int32} {h : Mm} (H : MO h) (c : inF i 0 (h.mi 277 26 - 1) = 0) : dM PG 4 [.ref 277, .int i] h = some (.inl (some (.int 0)), h.si 277 0 1) := by
  rw [dM_of (Nat.le_of_ble_eq_true rfl)]
  simp -implicitDefEqProofs only [D_4_0, k_4_0, D_4_19, k_4_19, D_4_20, k_4_20, D_4_39, k_4_39, D_4_40, k_4_40, R_4, v_aload_n, v_iload_n, g_iconst, g_getfield, sv_i, rf_s, g_getfieldS, g_isub, v_callS3, aft_v, aft_n, g_if_eq, g_goto, g_put_i, g_if_ne, sv_a, v_iaload, inI_0, g_ireturn, entL, getL, setL, kL_i, kL_r, isI_s, isR_s, isJ_s, gV_s, iV_i, cs0, cs1, cs2, cs3, cs4, dn_nil, kd_si, kd_sl, kd_sw, mr_si, mr_sl, mr_sw, ml_si, ml_sw, mi_sl, mk_277 H, mk_278 H, mk_279 H, mk_280 H, mk_281 H, mk_282 H, mk_283 H, mk_284 H, mk_285 H, mk_286 H, mk_287 H, mk_288 H, mk_289 H, mr_1 H, mr_11 H, mr_12 H, mr_13 H, mr_14 H, mr_15 H, mr_16 H, mr_17 H, mr_18 H, mr_19 H, mr_24 H, mr_25 H, m_136, c, ↓if_true, if_true, mi_ss, ↓if_neg z_1, if_neg z_1, retX_int]
theorem m_4y {k : Nat} (hk : k < 300) {h : Mm} (H : MO h) (c : inF (Int32.ofNat k) 0 (h.mi 277 26 - 1) = 1) : dM PG 4 [.ref 277, .int (Int32.ofNat k)] h = some (.inl (some (.int (h.mi 289 k))), h.si 277 0 0) := by
  rw [dM_of (Nat.le_of_ble_eq_true rfl)]
  have b_1 : inb (Int32.ofNat (k)) 300 = true := inb_nat (by omega) (by decide)
  have n_1 : (Int32.ofNat (k)).toNatClampNeg = k := i32_nat (by omega)
  have k289 : (289 : Nat) ≠ 277 := by decide
  simp -implicitDefEqProofs only [D_4_0, k_4_0, D_4_19, k_4_19, D_4_20, k_4_20, D_4_39, k_4_39, D_4_40, k_4_40, R_4, v_aload_n, v_iload_n, g_iconst, g_getfield, sv_i, rf_s, g_getfieldS, g_isub, v_callS3, aft_v, aft_n, g_if_eq, g_goto, g_put_i, g_if_ne, sv_a, v_iaload, inI_0, g_ireturn, entL, getL, setL, kL_i, kL_r, isI_s, isR_s, isJ_s, gV_s, iV_i, cs0, cs1, cs2, cs3, cs4, dn_nil, kd_si, kd_sl, kd_sw, mr_si, mr_sl, mr_sw, ml_si, ml_sw, mi_sl, mk_277 H, mk_278 H, mk_279 H, mk_280 H, mk_281 H, mk_282 H, mk_283 H, mk_284 H, mk_285 H, mk_286 H, mk_287 H, mk_288 H, mk_289 H, mr_1 H, mr_11 H, mr_12 H, mr_13 H, mr_14 H, mr_15 H, mr_16 H, mr_17 H, mr_18 H, mr_19 H, mr_24 H, mr_25 H, m_136, c, ↓if_neg z_1, if_neg z_1, mi_ss, ↓if_true, if_true, b_1, n_1, mi_sa k289, retX_int]
/-- the strings that the model's texts need -/
def WSM (h : Mm) : Prop := STR h 40 41 4 (wC "wait") ∧ STR h 42 43 3 (wC "ice") ∧ STR h 44 45 5 (wC ";all ")
theorem R_9 : PG.2.1 9 = (some .int) := rfl
theorem m_9n {i : Int32} {h : Mm} (H : MO h) (hl : h.mi 277 21 = 0) : dM PG 9 [.ref 277, .int i] h = some (.inl (some (.int 0)), h.si 277 0 1) := by
  rw [dM_of (Nat.le_of_ble_eq_true rfl)]
  simp -implicitDefEqProofs only [D_9_0, k_9_0, R_9, v_aload_n, v_iload_n, v_callV2, aft_v, aft_n, g_if_ne, g_iconst, g_ireturn, entL, getL, setL, kL_i, kL_r, isI_s, isR_s, isJ_s, gV_s, iV_i, cs0, cs1, cs2, cs3, cs4, dn_nil, kd_si, kd_sl, kd_sw, mr_si, mr_sl, mr_sw, ml_si, ml_sw, mi_sl, mk_277 H, mk_278 H, mk_279 H, mk_280 H, mk_281 H, mk_282 H, mk_283 H, mk_284 H, mk_285 H, mk_286 H, mk_287 H, mk_288 H, mk_289 H, mr_1 H, mr_11 H, mr_12 H, mr_13 H, mr_14 H, mr_15 H, mr_16 H, mr_17 H, mr_18 H, mr_19 H, mr_24 H, mr_25 H, m_148 H, m_138n H hl, ↓if_true, if_true, retX_int]
theorem m_9x {i : Int32} {h : Mm} (H : MO h) (hl : ¬ h.mi 277 21 = 0) (c : inF i 0 (h.mi 283 8 - 1) = 0) : dM PG 9 [.ref 277, .int i] h = some (.inl (some (.int 0)), h.si 277 0 2) := by
  rw [dM_of (Nat.le_of_ble_eq_true rfl)]
  simp -implicitDefEqProofs only [D_9_0, k_9_0, R_9, v_aload_n, v_iload_n, v_callV2, aft_v, aft_n, g_if_ne, g_iconst, g_ireturn, entL, getL, setL, kL_i, kL_r, isI_s, isR_s, isJ_s, gV_s, iV_i, cs0, cs1, cs2, cs3, cs4, dn_nil, kd_si, kd_sl, kd_sw, mr_si, mr_sl, mr_sw, ml_si, ml_sw, mi_sl, mk_277 H, mk_278 H, mk_279 H, mk_280 H, mk_281 H, mk_282 H, mk_283 H, mk_284 H, mk_285 H, mk_286 H, mk_287 H, mk_288 H, mk_289 H, mr_1 H, mr_11 H, mr_12 H, mr_13 H, mr_14 H, mr_15 H, mr_16 H, mr_17 H, mr_18 H, mr_19 H, mr_24 H, mr_25 H, m_148 H, c, m_138x H hl, ↓if_true, if_true, retX_int]
theorem STR_si {h : Mm} {p q n a k : Nat} {v : Int32} {d : Nat → Nat} (S : STR h p q n d) (hp : p ≠ a) (hq : q ≠ a) : STR (h.si a k v) p q n d := by
  obtain ⟨s1, s2, s3, s4, s5⟩ := S
  refine ⟨s1, ?_, s3, s4, fun j hj => ?_⟩
  · rw [mi_sa hp, s2]
  · rw [mi_sa hq]; exact s5 j hj
theorem pg_ini {h : Mm} : (h.si 277 0 0).si 277 26 0 = (h.si 277 0 0).pg (h.mi 289) 0 := by
  unfold Mm.pg
  have e := sw_id (h := h.si 277 0 0) (a := 289)
  rw [mi_sa (by decide)] at e
  rw [e]; rfl
def lbM (le : Nat → Nat) (w wn e en : Nat) (ic : Option (Nat × Nat)) (t : Tt) : Tt := match ic with
  | none => tS 4 (wC "wait") (tC 32 (tN e en (tC 43 (tN w wn (tC 32 (fl (nmS le) 9 0 t))))))
  | some (i, n) => tN i n (tS 3 (wC "ice") (tC 32 (tN e en (tC 43 (tN w wn (tC 32 (fl (nmS le) 9 0 t)))))))
theorem m_9y {k kk w wn ex en : Nat} {le : Nat → Nat} (hk : k < 80) (hkk : kk < 4) {h : Mm} (H : MO h) (WS : WSM h) (hl : ¬ h.mi 277 21 = 0) (c : inF (Int32.ofNat k) 0 (h.mi 283 8 - 1) = 1) (h688 : h.mi 283 (688 + k) = Int32.ofNat kk) (h768 : h.mi 283 (768 + k) = Int32.ofNat w) (h848 : h.mi 283 (848 + k) = Int32.ofNat ex) (hwn : dgK w wn) (hw : w < 1000000000) (hen : dgK ex en) (hex2 : ex < 1000000000) (hle : ∀ i, i < 9 → lt5 (h.ml 281 kk) i = Int32.ofNat (le i) ∧ le i < 32) (ic : Option (Nat × Nat)) (hic : match ic with | none => h.mi 283 (1088 + k) = -1 | some (i, n) => h.mi 283 (1088 + k) = Int32.ofNat i ∧ dgK i n ∧ i < 1000000000) (cs : Nat → Nat) : ∃ P n, dM PG 9 [.ref 277, .int (Int32.ofNat k)] h = some (.inl (some (.int (Int32.ofNat n))), (h.si 277 0 0).pg P n) ∧ PgR P n (lbM le w wn ex en ic (0, cs)) := by
  have wn9 := dgK_10 hwn hw
  have en9 := dgK_10 hen hex2
  have H0 : MO (h.si 277 0 0) := H
  have R0 : PgR (h.mi 289) 0 (0, cs) := ⟨rfl, fun j hj => absurd hj (Nat.not_lt_zero j)⟩
  obtain ⟨P1, n1, g1, R1, l1⟩ := m_140 hle H0 R0 (by decide)
  obtain ⟨P2, g2, R2⟩ := mt_c (x := 32) (show n1 < 300 by omega) H0 R1
  obtain ⟨P3, g3, R3⟩ := m_142 hw hwn H0 R2 (by omega)
  obtain ⟨P4, g4, R4⟩ := mt_c (x := 43) (show n1 + 1 + wn < 300 by omega) H0 R3
  obtain ⟨P5, g5, R5⟩ := m_142 hex2 hen H0 R4 (by omega)
  obtain ⟨P6, g6, R6⟩ := mt_c (x := 32) (show n1 + 1 + wn + 1 + en < 300 by omega) H0 R5
  rw [show Int32.ofNat 32 = 32 from rfl] at g2 g6
  rw [show Int32.ofNat 43 = 43 from rfl] at g4
  have e3 : ∀ P n, ((h.si 277 0 0).pg P n).mi 283 = h.mi 283 := fun P n => (pg_o (by decide) (by decide)).trans (mi_sa k283)
  have b_1 : inb (Int32.ofNat (688 + k)) 1168 = true := inb_nat (by omega) (by decide)
  have n_1 : (Int32.ofNat (688 + k)).toNatClampNeg = 688 + k := i32_nat (by omega)
  have b_2 : inb (Int32.ofNat (768 + k)) 1168 = true := inb_nat (by omega) (by decide)
  have n_2 : (Int32.ofNat (768 + k)).toNatClampNeg = 768 + k := i32_nat (by omega)
  have b_3 : inb (Int32.ofNat (848 + k)) 1168 = true := inb_nat (by omega) (by decide)
  have n_3 : (Int32.ofNat (848 + k)).toNatClampNeg = 848 + k := i32_nat (by omega)
  have b_4 : inb (Int32.ofNat (1088 + k)) 1168 = true := inb_nat (by omega) (by decide)
  have n_4 : (Int32.ofNat (1088 + k)).toNatClampNeg = 1088 + k := i32_nat (by omega)
  have b_5 : inb (Int32.ofNat (kk)) 4 = true := inb_nat (by omega) (by decide)
  have n_5 : (Int32.ofNat (kk)).toNatClampNeg = kk := i32_nat (by omega)
  cases ic with
  | none =>
    obtain ⟨P7, g7, R7⟩ := m_145 H0 (by decide) (by decide) (STR_si WS.1 (by decide) (by decide)) R6 (by omega)
    refine ⟨P7, _, ?_, R7⟩
    have hic' : h.mi 283 (1088 + k) = -1 := hic
    rw [dM_of (Nat.le_of_ble_eq_true rfl)]
    simp -implicitDefEqProofs only [D_9_0, k_9_0, D_9_14, k_9_14, D_9_108, k_9_108, D_9_129, k_9_129, R_9, v_aload_n, v_iload_n, v_callV2, aft_v, aft_n, g_if_ne, g_iconst, g_ireturn, g_put_i, g_getfield, sv_a, rf_s, g_getfieldS, g_sipush, g_iadd, v_iaload, inI_0, v_laload, inJ_0, g_bipush, g_icmp_ne, g_ldc_w, g_goto, sv_i, entL, getL, setL, kL_i, kL_r, isI_s, isR_s, isJ_s, gV_s, iV_i, cs0, cs1, cs2, cs3, cs4, dn_nil, kd_si, kd_sl, kd_sw, mr_si, mr_sl, mr_sw, ml_si, ml_sw, mi_sl, mk_277 H, mk_278 H, mk_279 H, mk_280 H, mk_281 H, mk_282 H, mk_283 H, mk_284 H, mk_285 H, mk_286 H, mk_287 H, mk_288 H, mk_289 H, mr_1 H, mr_11 H, mr_12 H, mr_13 H, mr_14 H, mr_15 H, mr_16 H, mr_17 H, mr_18 H, mr_19 H, mr_24 H, mr_25 H, m_148 H, c, m_138y H hl, ↓if_neg z_1, if_neg z_1, pg_ini, pg_k, pg_r, pg_l, e3, la_688, la_768, la_848, la_1088, b_1, n_1, b_2, n_2, b_3, n_3, b_4, n_4, b_5, n_5, h688, g1, g2, h768, g3, g4, h848, g5, g6, hic', ↓if_true, if_true, g7, pg_n, retX_int]
  | some q2 =>
    obtain ⟨i, n⟩ := q2
    obtain ⟨hi1, hi2, hi3⟩ := hic
    have n9 := dgK_10 hi2 hi3
    obtain ⟨P7, g7, R7⟩ := m_145 H0 (by decide) (by decide) (STR_si WS.2.1 (by decide) (by decide)) R6 (by omega)
    obtain ⟨P8, g8, R8⟩ := m_142 hi3 hi2 H0 R7 (by omega)
    refine ⟨P8, _, ?_, R8⟩
    have hic' : ¬ Int32.ofNat i = -1 := oN_s (by omega)
    rw [dM_of (Nat.le_of_ble_eq_true rfl)]
    simp -implicitDefEqProofs only [D_9_0, k_9_0, D_9_14, k_9_14, D_9_108, k_9_108, D_9_129, k_9_129, R_9, v_aload_n, v_iload_n, v_callV2, aft_v, aft_n, g_if_ne, g_iconst, g_ireturn, g_put_i, g_getfield, sv_a, rf_s, g_getfieldS, g_sipush, g_iadd, v_iaload, inI_0, v_laload, inJ_0, g_bipush, g_icmp_ne, g_ldc_w, g_goto, sv_i, entL, getL, setL, kL_i, kL_r, isI_s, isR_s, isJ_s, gV_s, iV_i, cs0, cs1, cs2, cs3, cs4, dn_nil, kd_si, kd_sl, kd_sw, mr_si, mr_sl, mr_sw, ml_si, ml_sw, mi_sl, mk_277 H, mk_278 H, mk_279 H, mk_280 H, mk_281 H, mk_282 H, mk_283 H, mk_284 H, mk_285 H, mk_286 H, mk_287 H, mk_288 H, mk_289 H, mr_1 H, mr_11 H, mr_12 H, mr_13 H, mr_14 H, mr_15 H, mr_16 H, mr_17 H, mr_18 H, mr_19 H, mr_24 H, mr_25 H, m_148 H, c, m_138y H hl, ↓if_neg z_1, if_neg z_1, pg_ini, pg_k, pg_r, pg_l, e3, la_688, la_768, la_848, la_1088, b_1, n_1, b_2, n_2, b_3, n_3, b_4, n_4, b_5, n_5, h688, g1, g2, h768, g3, g4, h848, g5, g6, hi1, ↓if_neg hic', if_neg hic', g7, g8, pg_n, retX_int]
