-- ===== the grader: an item added, a set of the pool =====
theorem R_255 : PG.2.1 255 = (some .int) := rfl
def wfF (a b c : Int32) : Int32 := (if 60000 < (2 * a.toInt64 * c.toInt64 + b.toInt64) / (2 * b.toInt64) then 60000 else (2 * a.toInt64 * c.toInt64 + b.toInt64) / (2 * b.toInt64)).toInt32
theorem m_255 {u : Nat} {a b : Int32} (hb : 1 ≤ b) (hz : ¬ 2 * b.toInt64 = 0) {h : Mm} (U : SU h u) : dM PG 255 [.ref u, .int a, .int b] h = some (.inl (some (.int (wfF a b (h.mi u 0)))), h) := by
  rw [dM_of (Nat.le_of_ble_eq_true rfl)]
  simp -implicitDefEqProofs only [D_255_0, k_255_0, D_255_7, k_255_7, R_255, v_iload_n, g_iconst, g_icmp_ge, g_ireturn, g_ldc2_w, g_i2l, g_lmul, v_aload_n, g_getfield, sv_i, rf_s, g_lstore_n, v_lload_n, g_ladd, g_ldiv, g_minL, g_l2i, entL, getL, setL, kL_i, kL_r, isI_s, isR_s, isJ_s, gV_s, iV_i, cs0, cs1, cs2, cs3, cs4, dn_nil, kd_si, kd_sl, kd_sw, mr_si, mr_sl, mr_sw, ml_si, ml_sw, mi_sl, su_k U, su_r9 U, su_r10 U, su_r12 U, su_r13 U, su_r14 U, su_r15 U, su_k1 U, su_k2 U, su_k3 U, su_k4 U, su_k5 U, su_k6 U, ↓if_pos hb, if_pos hb, ↓if_neg hz, if_neg hz, setL2, nonL, kL_n, kL_j, retX_int]
  rfl
theorem R_256 : PG.2.1 256 = (some .int) := rfl
def awS (i k : Nat) (R : Nat → Nat → Int32) : Nat → Nat → Int32 := zu2 R 12 (i * 4 + k) 0
def awF (R : Nat → Nat → Int32) (i : Nat) (w : Int32) : Nat → Nat → Int32 := zu2 (fl (awS i) 4 0 (zu2 (zu2 (zu2 (zu2 R 8 i w) 9 i (-1)) 10 i 0) 11 i (-1))) 7 0 (Int32.ofNat (i + 1))
theorem m_256 {b i : Nat} (hi : i < 80) {w : Int32} {h : Mm} (T : ST h b) {R : Nat → Nat → Int32} (h7 : R 7 0 = Int32.ofNat i) : dM PG 256 [.ref (b + 7), .int w] (h.sb b R) = some (.inl (some (.int (Int32.ofNat i))), h.sb b (awF R i w)) := by
  rw [dM_of (Nat.le_of_ble_eq_true rfl)]
  have b_1 : inb (Int32.ofNat (i)) 80 = true := inb_nat (by omega) (by decide)
  have n_1 : (Int32.ofNat (i)).toNatClampNeg = i := i32_nat (by omega)
  have mn : (if (79 : Int32) < Int32.ofNat i then (79 : Int32) else Int32.ofNat i) = Int32.ofNat i := by
    rw [if_neg]
    show ¬ Int32.ofNat 79 < Int32.ofNat i
    rw [i32_lt (by decide) (by omega)]; omega
  simp -implicitDefEqProofs only [D_256_0, k_256_0, v_aload_n, g_getfield, sv_i, rf_s, g_bipush, g_min, g_istore_n, sv_a, v_iload_n, v_iastore, wrI_0, g_iconst, entL, getL, setL, kL_i, kL_r, isI_s, isR_s, isJ_s, gV_s, iV_i, cs0, cs1, cs2, cs3, cs4, dn_nil, kd_si, kd_sl, kd_sw, mr_si, mr_sl, mr_sw, ml_si, ml_sw, mi_sl, st_k T, st_r6 T, st_r7 T, st_r8 T, st_r9 T, st_r10 T, st_r11 T, st_r12 T, st_r13 T, st_k1 T, st_k2 T, st_k3 T, st_k4 T, st_k5 T, st_k6 T, st_ki T, st_i2 T, st_i3 T, st_i4 T, st_i5 T, st_i6 T, st_k8 T, st_k9 T, st_k10 T, st_k11 T, st_k12 T, st_kb T, st_b2 T, st_b3 T, st_b4 T, st_b5 T, st_b6 T, st_k14 T, st_k15 T, st_k16 T, st_k17 T, st_k18 T, kd_sb, mr_sb, ml_sb, bm_0, bm_1, bm_2, bm_3, bm_4, bm_5, bm_6, bm_7, bm_8, bm_9, bm_10, bm_11, bm_12, bm_13, bm_14, bm_15, bm_16, bm_17, bm_18, bs_0, bs_1, bs_2, bs_3, bs_4, bs_5, bs_6, bs_7, bs_8, bs_9, bs_10, bs_11, bs_12, bs_13, bs_14, bs_15, bs_16, bs_17, bs_18, h7, mn, b_1, n_1]
  refine lp (n := 4) (I := fun _ _ => True) (h := fun Q => h.sb b Q) (f := awS i) (L := fun k Q tl => some (.ref (b + 7)) :: some (.int w) :: some (.int (Int32.ofNat i)) :: some (.int (Int32.ofNat k)) :: tl) (r := fun Q => some (.inl (some (.int (Int32.ofNat i))), h.sb b (zu2 Q 7 0 (Int32.ofNat (i + 1))))) ?_ ?_ 4 0 _ [] (by omega) trivial
  · intro k Q tl hk _
    refine ⟨trivial, tl, ?_⟩
    have z : ¬ (4 : Int32) ≤ Int32.ofNat k := by
      show ¬ Int32.ofNat 4 ≤ Int32.ofNat k
      rw [i32_le (by omega) (by omega)]; omega
    have s1 : Int32.ofNat (k) + 1 = Int32.ofNat (k + 1) := i32_add (b := 1)
    have b_2 : inb (Int32.ofNat (i * 4 + k)) 320 = true := inb_nat (by omega) (by decide)
    have n_2 : (Int32.ofNat (i * 4 + k)).toNatClampNeg = i * 4 + k := i32_nat (by omega)
    unfold awS
    rw [D_256_40]
    simp -implicitDefEqProofs only [D_256_0, k_256_0, k_256_40, D_256_62, k_256_62, R_256, v_aload_n, g_getfield, sv_i, rf_s, g_bipush, g_min, g_istore_n, sv_a, v_iload_n, v_iastore, wrI_0, g_iconst, g_icmp_ge, g_imul, g_iadd, v_iinc, g_goto, g_put_i, g_ireturn, entL, getL, setL, kL_i, kL_r, isI_s, isR_s, isJ_s, gV_s, iV_i, cs0, cs1, cs2, cs3, cs4, dn_nil, kd_si, kd_sl, kd_sw, mr_si, mr_sl, mr_sw, ml_si, ml_sw, mi_sl, st_k T, st_r6 T, st_r7 T, st_r8 T, st_r9 T, st_r10 T, st_r11 T, st_r12 T, st_r13 T, st_k1 T, st_k2 T, st_k3 T, st_k4 T, st_k5 T, st_k6 T, st_ki T, st_i2 T, st_i3 T, st_i4 T, st_i5 T, st_i6 T, st_k8 T, st_k9 T, st_k10 T, st_k11 T, st_k12 T, st_kb T, st_b2 T, st_b3 T, st_b4 T, st_b5 T, st_b6 T, st_k14 T, st_k15 T, st_k16 T, st_k17 T, st_k18 T, kd_sb, mr_sb, ml_sb, bm_0, bm_1, bm_2, bm_3, bm_4, bm_5, bm_6, bm_7, bm_8, bm_9, bm_10, bm_11, bm_12, bm_13, bm_14, bm_15, bm_16, bm_17, bm_18, bs_0, bs_1, bs_2, bs_3, bs_4, bs_5, bs_6, bs_7, bs_8, bs_9, bs_10, bs_11, bs_12, bs_13, bs_14, bs_15, bs_16, bs_17, bs_18, ↓if_neg z, if_neg z, rm_4, i32_add, b_2, n_2, s1]
  · intro Q tl _
    have z : (4 : Int32) ≤ Int32.ofNat 4 := by decide
    have s1 : Int32.ofNat (i) + 1 = Int32.ofNat (i + 1) := i32_add (b := 1)
    rw [D_256_40]
    simp -implicitDefEqProofs only [D_256_0, k_256_0, k_256_40, D_256_62, k_256_62, R_256, v_aload_n, g_getfield, sv_i, rf_s, g_bipush, g_min, g_istore_n, sv_a, v_iload_n, v_iastore, wrI_0, g_iconst, g_icmp_ge, g_imul, g_iadd, v_iinc, g_goto, g_put_i, g_ireturn, entL, getL, setL, kL_i, kL_r, isI_s, isR_s, isJ_s, gV_s, iV_i, cs0, cs1, cs2, cs3, cs4, dn_nil, kd_si, kd_sl, kd_sw, mr_si, mr_sl, mr_sw, ml_si, ml_sw, mi_sl, st_k T, st_r6 T, st_r7 T, st_r8 T, st_r9 T, st_r10 T, st_r11 T, st_r12 T, st_r13 T, st_k1 T, st_k2 T, st_k3 T, st_k4 T, st_k5 T, st_k6 T, st_ki T, st_i2 T, st_i3 T, st_i4 T, st_i5 T, st_i6 T, st_k8 T, st_k9 T, st_k10 T, st_k11 T, st_k12 T, st_kb T, st_b2 T, st_b3 T, st_b4 T, st_b5 T, st_b6 T, st_k14 T, st_k15 T, st_k16 T, st_k17 T, st_k18 T, kd_sb, mr_sb, ml_sb, bm_0, bm_1, bm_2, bm_3, bm_4, bm_5, bm_6, bm_7, bm_8, bm_9, bm_10, bm_11, bm_12, bm_13, bm_14, bm_15, bm_16, bm_17, bm_18, bs_0, bs_1, bs_2, bs_3, bs_4, bs_5, bs_6, bs_7, bs_8, bs_9, bs_10, bs_11, bs_12, bs_13, bs_14, bs_15, bs_16, bs_17, bs_18, ↓if_pos z, if_pos z, s1, retX_int]
theorem R_257 : PG.2.1 257 = none := rfl
theorem m_257 {b i k : Nat} (hi : i < 80) (hk : k < 4) {v : Int32} {h : Mm} (T : ST h b) {R : Nat → Nat → Int32} : dM PG 257 [.ref (b + 7), .int (Int32.ofNat i), .int (Int32.ofNat k), .int v] (h.sb b R) = some (.inl none, h.sb b (zu2 R 12 (i * 4 + k) (R 12 (i * 4 + k) + v))) := by
  rw [dM_of (Nat.le_of_ble_eq_true rfl)]
  have b_1 : inb (Int32.ofNat (i * 4 + k)) 320 = true := inb_nat (by omega) (by decide)
  have n_1 : (Int32.ofNat (i * 4 + k)).toNatClampNeg = i * 4 + k := i32_nat (by omega)
  simp -implicitDefEqProofs only [D_257_0, k_257_0, R_257, v_aload_n, g_getfield, sv_a, rf_s, v_iload_n, g_iconst, g_imul, g_iadd, g_dup2, v_iaload, inI_0, v_iastore, wrI_0, g_return, entL, getL, setL, kL_i, kL_r, isI_s, isR_s, isJ_s, gV_s, iV_i, cs0, cs1, cs2, cs3, cs4, dn_nil, kd_si, kd_sl, kd_sw, mr_si, mr_sl, mr_sw, ml_si, ml_sw, mi_sl, st_k T, st_r6 T, st_r7 T, st_r8 T, st_r9 T, st_r10 T, st_r11 T, st_r12 T, st_r13 T, st_k1 T, st_k2 T, st_k3 T, st_k4 T, st_k5 T, st_k6 T, st_ki T, st_i2 T, st_i3 T, st_i4 T, st_i5 T, st_i6 T, st_k8 T, st_k9 T, st_k10 T, st_k11 T, st_k12 T, st_kb T, st_b2 T, st_b3 T, st_b4 T, st_b5 T, st_b6 T, st_k14 T, st_k15 T, st_k16 T, st_k17 T, st_k18 T, kd_sb, mr_sb, ml_sb, bm_0, bm_1, bm_2, bm_3, bm_4, bm_5, bm_6, bm_7, bm_8, bm_9, bm_10, bm_11, bm_12, bm_13, bm_14, bm_15, bm_16, bm_17, bm_18, bs_0, bs_1, bs_2, bs_3, bs_4, bs_5, bs_6, bs_7, bs_8, bs_9, bs_10, bs_11, bs_12, bs_13, bs_14, bs_15, bs_16, bs_17, bs_18, rm_4, i32_add, b_1, n_1]
theorem R_258 : PG.2.1 258 = none := rfl
def dtF (R : Nat → Nat → Int32) (i : Nat) (mg : Int32) : Int32 := if 0 < R 12 (i * 4 + favF R i) ∧ mg ≤ claF R i then Int32.ofNat (favF R i) else -1
theorem m_258 {b i : Nat} (hi : i < 80) {mg : Int32} {h : Mm} (T : ST h b) {R : Nat → Nat → Int32} : dM PG 258 [.ref (b + 7), .int (Int32.ofNat i), .int mg] (h.sb b R) = some (.inl none, h.sb b (zu2 R 9 i (dtF R i mg))) := by
  rw [dM_of (Nat.le_of_ble_eq_true rfl)]
  have b_1 : inb (Int32.ofNat (i)) 80 = true := inb_nat (by omega) (by decide)
  have n_1 : (Int32.ofNat (i)).toNatClampNeg = i := i32_nat (by omega)
  have hf := favF_lt (R := R) (i := i)
  unfold dtF
  by_cases c1 : 0 < R 12 (i * 4 + favF R i)
  · have d1 : ¬ R 12 (i * 4 + favF R i) ≤ 0 := Int32.not_le.mpr c1
    by_cases c2 : mg ≤ claF R i
    · have d2 : ¬ claF R i < mg := Int32.not_lt.mpr c2
      rw [if_pos ⟨c1, c2⟩]
      simp -implicitDefEqProofs only [D_258_0, k_258_0, D_258_28, k_258_28, D_258_29, k_258_29, D_258_45, k_258_45, D_258_46, k_258_46, R_258, v_aload_n, v_iload_n, v_callV2, aft_v, aft_n, g_istore_n, v_callV3, g_if_le, g_icmp_lt, g_iconst, g_goto, g_istore, g_getfield, sv_a, rf_s, v_iload, g_if_eq, v_iastore, wrI_0, g_return, entL, getL, setL, kL_i, kL_r, isI_s, isR_s, isJ_s, gV_s, iV_i, cs0, cs1, cs2, cs3, cs4, dn_nil, kd_si, kd_sl, kd_sw, mr_si, mr_sl, mr_sw, ml_si, ml_sw, mi_sl, st_k T, st_r6 T, st_r7 T, st_r8 T, st_r9 T, st_r10 T, st_r11 T, st_r12 T, st_r13 T, st_k1 T, st_k2 T, st_k3 T, st_k4 T, st_k5 T, st_k6 T, st_ki T, st_i2 T, st_i3 T, st_i4 T, st_i5 T, st_i6 T, st_k8 T, st_k9 T, st_k10 T, st_k11 T, st_k12 T, st_kb T, st_b2 T, st_b3 T, st_b4 T, st_b5 T, st_b6 T, st_k14 T, st_k15 T, st_k16 T, st_k17 T, st_k18 T, kd_sb, mr_sb, ml_sb, bm_0, bm_1, bm_2, bm_3, bm_4, bm_5, bm_6, bm_7, bm_8, bm_9, bm_10, bm_11, bm_12, bm_13, bm_14, bm_15, bm_16, bm_17, bm_18, bs_0, bs_1, bs_2, bs_3, bs_4, bs_5, bs_6, bs_7, bs_8, bs_9, bs_10, bs_11, bs_12, bs_13, bs_14, bs_15, bs_16, bs_17, bs_18, m_310 hi T, m_289 hi hf T, m_288 hi T, ↓if_neg d1, if_neg d1, ↓if_neg d2, if_neg d2, ↓if_neg z_1, if_neg z_1, b_1, n_1]
    · have d2 : claF R i < mg := Int32.not_le.mp c2
      rw [if_neg (fun q => c2 q.2)]
      simp -implicitDefEqProofs only [D_258_0, k_258_0, D_258_28, k_258_28, D_258_29, k_258_29, D_258_45, k_258_45, D_258_46, k_258_46, R_258, v_aload_n, v_iload_n, v_callV2, aft_v, aft_n, g_istore_n, v_callV3, g_if_le, g_icmp_lt, g_iconst, g_goto, g_istore, g_getfield, sv_a, rf_s, v_iload, g_if_eq, v_iastore, wrI_0, g_return, entL, getL, setL, kL_i, kL_r, isI_s, isR_s, isJ_s, gV_s, iV_i, cs0, cs1, cs2, cs3, cs4, dn_nil, kd_si, kd_sl, kd_sw, mr_si, mr_sl, mr_sw, ml_si, ml_sw, mi_sl, st_k T, st_r6 T, st_r7 T, st_r8 T, st_r9 T, st_r10 T, st_r11 T, st_r12 T, st_r13 T, st_k1 T, st_k2 T, st_k3 T, st_k4 T, st_k5 T, st_k6 T, st_ki T, st_i2 T, st_i3 T, st_i4 T, st_i5 T, st_i6 T, st_k8 T, st_k9 T, st_k10 T, st_k11 T, st_k12 T, st_kb T, st_b2 T, st_b3 T, st_b4 T, st_b5 T, st_b6 T, st_k14 T, st_k15 T, st_k16 T, st_k17 T, st_k18 T, kd_sb, mr_sb, ml_sb, bm_0, bm_1, bm_2, bm_3, bm_4, bm_5, bm_6, bm_7, bm_8, bm_9, bm_10, bm_11, bm_12, bm_13, bm_14, bm_15, bm_16, bm_17, bm_18, bs_0, bs_1, bs_2, bs_3, bs_4, bs_5, bs_6, bs_7, bs_8, bs_9, bs_10, bs_11, bs_12, bs_13, bs_14, bs_15, bs_16, bs_17, bs_18, m_310 hi T, m_289 hi hf T, m_288 hi T, ↓if_neg d1, if_neg d1, ↓if_pos d2, if_pos d2, ↓if_true, if_true, b_1, n_1]
  · have d1 : R 12 (i * 4 + favF R i) ≤ 0 := Int32.not_lt.mp c1
    rw [if_neg (fun q => c1 q.1)]
    simp -implicitDefEqProofs only [D_258_0, k_258_0, D_258_28, k_258_28, D_258_29, k_258_29, D_258_45, k_258_45, D_258_46, k_258_46, R_258, v_aload_n, v_iload_n, v_callV2, aft_v, aft_n, g_istore_n, v_callV3, g_if_le, g_icmp_lt, g_iconst, g_goto, g_istore, g_getfield, sv_a, rf_s, v_iload, g_if_eq, v_iastore, wrI_0, g_return, entL, getL, setL, kL_i, kL_r, isI_s, isR_s, isJ_s, gV_s, iV_i, cs0, cs1, cs2, cs3, cs4, dn_nil, kd_si, kd_sl, kd_sw, mr_si, mr_sl, mr_sw, ml_si, ml_sw, mi_sl, st_k T, st_r6 T, st_r7 T, st_r8 T, st_r9 T, st_r10 T, st_r11 T, st_r12 T, st_r13 T, st_k1 T, st_k2 T, st_k3 T, st_k4 T, st_k5 T, st_k6 T, st_ki T, st_i2 T, st_i3 T, st_i4 T, st_i5 T, st_i6 T, st_k8 T, st_k9 T, st_k10 T, st_k11 T, st_k12 T, st_kb T, st_b2 T, st_b3 T, st_b4 T, st_b5 T, st_b6 T, st_k14 T, st_k15 T, st_k16 T, st_k17 T, st_k18 T, kd_sb, mr_sb, ml_sb, bm_0, bm_1, bm_2, bm_3, bm_4, bm_5, bm_6, bm_7, bm_8, bm_9, bm_10, bm_11, bm_12, bm_13, bm_14, bm_15, bm_16, bm_17, bm_18, bs_0, bs_1, bs_2, bs_3, bs_4, bs_5, bs_6, bs_7, bs_8, bs_9, bs_10, bs_11, bs_12, bs_13, bs_14, bs_15, bs_16, bs_17, bs_18, m_310 hi T, m_289 hi hf T, m_288 hi T, ↓if_pos d1, if_pos d1, ↓if_true, if_true, b_1, n_1]
-- a set of the pool goes into a box
def pgt (R : Nat → Nat → Int32) (j : Nat) : Nat := (R 1 j).toNatClampNeg
def cgS (k p : Nat) (R : Nat → Nat → Int32) (d q : Nat) : Nat → Nat → Int32 := gpA (tpF R d q) k p (pgt R d)
def cgG (x : Int32) (k p : Nat) : Nat → (Nat → Nat → Int32) × Nat → (Nat → Nat → Int32) × Nat
  | 0, a => a
  | d + 1, a => if bU x d = 0 then cgG x k p d a else cgG x k p d (cgS k p a.1 d a.2, a.2 - 1)
theorem fl_tp {o j : Nat} : ∀ (d i : Nat) (R : Nat → Nat → Int32), 1 ≤ i → (o ≠ 1 ∨ j + 1 < i ∨ i + d ≤ j + 1) → fl tpS d i R o j = R o j := by
  intro d
  induction d with
  | zero => intro i R _ _; rfl
  | succ d ih =>
    intro i R hi h
    show fl tpS d (i + 1) (tpS i R) o j = R o j
    rw [ih (i + 1) (tpS i R) (by omega) (by omega)]
    unfold tpS
    by_cases c : o = 1
    · subst c; rw [z2_k (by omega)]
    · rw [z2_o c]
theorem tpF_o {R : Nat → Nat → Int32} {ix pc o j : Nat} (h0 : o ≠ 0 ∨ j ≠ 5) (h1 : o ≠ 1 ∨ j < ix ∨ pc ≤ j + 1) : tpF R ix pc o j = R o j := by
  unfold tpF
  by_cases c : o = 0
  · subst c
    rw [z2_k (by omega), fl_tp _ _ _ (by omega) (by omega)]
  · rw [z2_o c, fl_tp _ _ _ (by omega) (by omega)]
theorem tpF_5 {R : Nat → Nat → Int32} {ix pc : Nat} : tpF R ix pc 0 5 = Int32.ofNat (pc - 1) := by
  unfold tpF; rw [z2_s]
theorem gpA_o {R : Nat → Nat → Int32} {k p i o j : Nat} (h6 : o ≠ 6) (h10 : o ≠ 10) (h11 : o ≠ 11) : gpA R k p i o j = R o j := by
  unfold gpA
  rw [z2_o h11, z2_o h10, z2_o h6]
theorem R_266 : PG.2.1 266 = none := rfl
theorem l_266 {b k p : Nat} {x : Int32} (hk4 : k < 4) (hp3 : p < 3) {h : Mm} (T : ST h b) : ∀ (d q : Nat) (R : Nat → Nat → Int32) (tl : Lc), d ≤ q → q ≤ 10 → R 0 5 = Int32.ofNat q → (∀ j, j < d → inb (R 1 j) 80 = true ∧ (bU x j = 0 ∨ R 9 (pgt R j) = Int32.ofNat k)) → ∃ tl', dB PG 266 8 (some (.ref b) :: some (.int x) :: some (.int (Int32.ofNat k)) :: some (.int (Int32.ofNat p)) :: some (.int (Int32.ofNat d - 1)) :: tl) [] (h.sb b R) = dB PG 266 50 (some (.ref b) :: some (.int x) :: some (.int (Int32.ofNat k)) :: some (.int (Int32.ofNat p)) :: tl') [] (h.sb b (cgG x k p d (R, q)).1) := by
  intro d
  induction d with
  | zero =>
    intro q R tl _ _ _ _
    have e : Int32.ofNat 0 - 1 < 0 := by decide
    refine ⟨some (.int (Int32.ofNat 0 - 1)) :: tl, ?_⟩
    rw [D_266_8]
    simp -implicitDefEqProofs only [D_266_0, k_266_0, k_266_8, D_266_44, k_266_44, k_266_50, R_266, v_aload_n, g_getfield, sv_i, rf_s, g_iconst, g_isub, g_istore, v_iload, g_if_lt, v_iload_n, g_iushr, g_iand, g_if_eq, sv_a, v_iaload, inI_0, v_callV2, aft_v, aft_n, v_callV3, v_iinc, g_goto, g_pop_i, g_pop_r, g_return, entL, getL, setL, kL_i, kL_r, isI_s, isR_s, isJ_s, gV_s, iV_i, cs0, cs1, cs2, cs3, cs4, dn_nil, kd_si, kd_sl, kd_sw, mr_si, mr_sl, mr_sw, ml_si, ml_sw, mi_sl, ↓if_pos e, if_pos e]
    rfl
  | succ d ih =>
    intro q R tl hdq hq h5 hp
    have p1 : Int32.ofNat (d + 1) - 1 = Int32.ofNat d := i32_pred (i := d + 1) (by omega)
    have e : ¬ Int32.ofNat d < 0 := i32_0n (by omega)
    have s1 : Int32.ofNat d + -1 = Int32.ofNat d - 1 := (Int32.sub_eq_add_neg _ _).symm
    rw [p1]
    by_cases c : bU x d = 0
    · have c2 : (x.toUInt32 >>> ((Int32.ofNat d).toUInt32 &&& Int32.toUInt32 31)).toInt32 &&& 1 = 0 := c
      obtain ⟨tl', e'⟩ := ih q R tl (by omega) hq h5 (fun j hj => hp j (by omega))
      have z : cgG x k p (d + 1) (R, q) = cgG x k p d (R, q) := if_pos c
      refine ⟨tl', ?_⟩
      rw [z, ← e', D_266_8]
      simp -implicitDefEqProofs only [D_266_0, k_266_0, k_266_8, D_266_44, k_266_44, k_266_50, R_266, v_aload_n, g_getfield, sv_i, rf_s, g_iconst, g_isub, g_istore, v_iload, g_if_lt, v_iload_n, g_iushr, g_iand, g_if_eq, sv_a, v_iaload, inI_0, v_callV2, aft_v, aft_n, v_callV3, v_iinc, g_goto, g_pop_i, g_pop_r, g_return, entL, getL, setL, kL_i, kL_r, isI_s, isR_s, isJ_s, gV_s, iV_i, cs0, cs1, cs2, cs3, cs4, dn_nil, kd_si, kd_sl, kd_sw, mr_si, mr_sl, mr_sw, ml_si, ml_sw, mi_sl, ↓if_neg e, if_neg e, ↓if_pos c2, if_pos c2, s1]
    · have c2 : ¬ (x.toUInt32 >>> ((Int32.ofNat d).toUInt32 &&& Int32.toUInt32 31)).toInt32 &&& 1 = 0 := c
      obtain ⟨hin, hkd⟩ := hp d (by omega)
      have hkd := hkd.resolve_left c
      obtain ⟨q1, q2⟩ := inb_80 hin
      have q3 : R 1 d = Int32.ofNat (pgt R d) := q1
      have q4 : pgt R d < 80 := q2
      have g1 := m_262 (ix := d) hq (by omega) T h5
      have kd' : tpF R d q 9 (pgt R d) = Int32.ofNat k := by rw [tpF_o (by omega) (by omega), hkd]
      have g2 := m_263 (p := p) q4 hk4 hp3 T kd'
      obtain ⟨tl', e'⟩ := ih (q - 1) (cgS k p R d q) (some (.int (Int32.ofNat (pgt R d))) :: tl.tail) (by omega) (by omega) (by unfold cgS; rw [gpA_o (by decide) (by decide) (by decide), tpF_5]) (fun j hj => by
        obtain ⟨a1, a2⟩ := hp j (by omega)
        have w1 : cgS k p R d q 1 j = R 1 j := by unfold cgS; rw [gpA_o (by decide) (by decide) (by decide), tpF_o (by omega) (by omega)]
        have w2 : pgt (cgS k p R d q) j = pgt R j := by unfold pgt; rw [w1]
        have w3 : cgS k p R d q 9 (pgt R j) = R 9 (pgt R j) := by unfold cgS; rw [gpA_o (by decide) (by decide) (by decide), tpF_o (by omega) (by omega)]
        rw [w2, w1, w3]
        exact ⟨a1, a2⟩)
      have z : cgG x k p (d + 1) (R, q) = cgG x k p d (cgS k p R d q, q - 1) := if_neg c
      have b_1 : inb (Int32.ofNat (d)) 10 = true := inb_nat (by omega) (by decide)
      have n_1 : (Int32.ofNat (d)).toNatClampNeg = d := i32_nat (by omega)
      refine ⟨tl', ?_⟩
      rw [z, ← e', D_266_8]
      unfold cgS
      simp -implicitDefEqProofs only [D_266_0, k_266_0, k_266_8, D_266_44, k_266_44, k_266_50, R_266, v_aload_n, g_getfield, sv_i, rf_s, g_iconst, g_isub, g_istore, v_iload, g_if_lt, v_iload_n, g_iushr, g_iand, g_if_eq, sv_a, v_iaload, inI_0, v_callV2, aft_v, aft_n, v_callV3, v_iinc, g_goto, g_pop_i, g_pop_r, g_return, entL, getL, setL, kL_i, kL_r, isI_s, isR_s, isJ_s, gV_s, iV_i, cs0, cs1, cs2, cs3, cs4, dn_nil, kd_si, kd_sl, kd_sw, mr_si, mr_sl, mr_sw, ml_si, ml_sw, mi_sl, st_k T, st_r6 T, st_r7 T, st_r8 T, st_r9 T, st_r10 T, st_r11 T, st_r12 T, st_r13 T, st_k1 T, st_k2 T, st_k3 T, st_k4 T, st_k5 T, st_k6 T, st_ki T, st_i2 T, st_i3 T, st_i4 T, st_i5 T, st_i6 T, st_k8 T, st_k9 T, st_k10 T, st_k11 T, st_k12 T, st_kb T, st_b2 T, st_b3 T, st_b4 T, st_b5 T, st_b6 T, st_k14 T, st_k15 T, st_k16 T, st_k17 T, st_k18 T, kd_sb, mr_sb, ml_sb, bm_0, bm_1, bm_2, bm_3, bm_4, bm_5, bm_6, bm_7, bm_8, bm_9, bm_10, bm_11, bm_12, bm_13, bm_14, bm_15, bm_16, bm_17, bm_18, bs_0, bs_1, bs_2, bs_3, bs_4, bs_5, bs_6, bs_7, bs_8, bs_9, bs_10, bs_11, bs_12, bs_13, bs_14, bs_15, bs_16, bs_17, bs_18, ↓if_neg e, if_neg e, ↓if_neg c2, if_neg c2, b_1, n_1, q3, g1, g2, setL_0, s1]
theorem m_266 {b k p pc n m : Nat} {x : Int32} (hk4 : k < 4) (hp3 : p < 3) (hpc : pc ≤ 10) (hn : n < 80) (hm : m ≤ 80) {h : Mm} (T : ST h b) {R : Nat → Nat → Int32} (h5 : R 0 5 = Int32.ofNat pc) (hp : ∀ j, j < pc → inb (R 1 j) 80 = true ∧ (bU x j = 0 ∨ R 9 (pgt R j) = Int32.ofNat k)) {Q : Nat → Nat → Int32} (hQ : (cgG x k p pc (R, pc)).1 = Q) (h13 : Q 13 0 = Int32.ofNat n) (h70 : Q 7 0 = Int32.ofNat m) (c : ¬ Q 6 (k * 3 + p) < Q 2 k) : dM PG 266 [.ref b, .int x, .int (Int32.ofNat k), .int (Int32.ofNat p)] (h.sb b R) = some (.inl none, h.sb b (gclA Q k p n m)) := by
  rw [dM_of (Nat.le_of_ble_eq_true rfl)]
  obtain ⟨tl', e'⟩ := l_266 (k := k) (p := p) (x := x) hk4 hp3 T pc pc R [] (Nat.le_refl _) hpc h5 hp
  rw [hQ] at e'
  simp -implicitDefEqProofs only [D_266_0, k_266_0, v_aload_n, g_getfield, sv_i, rf_s, g_iconst, g_isub, g_istore, entL, getL, setL, kL_i, kL_r, isI_s, isR_s, isJ_s, gV_s, iV_i, cs0, cs1, cs2, cs3, cs4, dn_nil, kd_si, kd_sl, kd_sw, mr_si, mr_sl, mr_sw, ml_si, ml_sw, mi_sl, st_k T, st_r6 T, st_r7 T, st_r8 T, st_r9 T, st_r10 T, st_r11 T, st_r12 T, st_r13 T, st_k1 T, st_k2 T, st_k3 T, st_k4 T, st_k5 T, st_k6 T, st_ki T, st_i2 T, st_i3 T, st_i4 T, st_i5 T, st_i6 T, st_k8 T, st_k9 T, st_k10 T, st_k11 T, st_k12 T, st_kb T, st_b2 T, st_b3 T, st_b4 T, st_b5 T, st_b6 T, st_k14 T, st_k15 T, st_k16 T, st_k17 T, st_k18 T, kd_sb, mr_sb, ml_sb, bm_0, bm_1, bm_2, bm_3, bm_4, bm_5, bm_6, bm_7, bm_8, bm_9, bm_10, bm_11, bm_12, bm_13, bm_14, bm_15, bm_16, bm_17, bm_18, bs_0, bs_1, bs_2, bs_3, bs_4, bs_5, bs_6, bs_7, bs_8, bs_9, bs_10, bs_11, bs_12, bs_13, bs_14, bs_15, bs_16, bs_17, bs_18, h5]
  rw [e', D_266_50]
  simp -implicitDefEqProofs only [D_266_0, k_266_0, k_266_8, D_266_44, k_266_44, k_266_50, R_266, v_aload_n, g_getfield, sv_i, rf_s, g_iconst, g_isub, g_istore, v_iload, g_if_lt, v_iload_n, g_iushr, g_iand, g_if_eq, sv_a, v_iaload, inI_0, v_callV2, aft_v, aft_n, v_callV3, v_iinc, g_goto, g_pop_i, g_pop_r, g_return, entL, getL, setL, kL_i, kL_r, isI_s, isR_s, isJ_s, gV_s, iV_i, cs0, cs1, cs2, cs3, cs4, dn_nil, kd_si, kd_sl, kd_sw, mr_si, mr_sl, mr_sw, ml_si, ml_sw, mi_sl, st_k T, st_r6 T, st_r7 T, st_r8 T, st_r9 T, st_r10 T, st_r11 T, st_r12 T, st_r13 T, st_k1 T, st_k2 T, st_k3 T, st_k4 T, st_k5 T, st_k6 T, st_ki T, st_i2 T, st_i3 T, st_i4 T, st_i5 T, st_i6 T, st_k8 T, st_k9 T, st_k10 T, st_k11 T, st_k12 T, st_kb T, st_b2 T, st_b3 T, st_b4 T, st_b5 T, st_b6 T, st_k14 T, st_k15 T, st_k16 T, st_k17 T, st_k18 T, kd_sb, mr_sb, ml_sb, bm_0, bm_1, bm_2, bm_3, bm_4, bm_5, bm_6, bm_7, bm_8, bm_9, bm_10, bm_11, bm_12, bm_13, bm_14, bm_15, bm_16, bm_17, bm_18, bs_0, bs_1, bs_2, bs_3, bs_4, bs_5, bs_6, bs_7, bs_8, bs_9, bs_10, bs_11, bs_12, bs_13, bs_14, bs_15, bs_16, bs_17, bs_18, m_264y hk4 hp3 hn hm T h13 h70 c]
