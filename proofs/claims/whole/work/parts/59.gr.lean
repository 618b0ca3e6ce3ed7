-- ===== the grader: stops, boxes closed, items put =====
theorem m_319 {u b q n : Nat} (hub : u + 7 ≤ b) (hn : n ≤ 80) (hq : q ≤ n) {h : Mm} (T : ST h b) (U : SU h u) {R : Nat → Nat → Int32} (hR : R 13 0 = Int32.ofNat n) (hR1 : R 13 1 = Int32.ofNat q) : dM PG 319 [.ref b, .ref u] (h.sb b R) = some (.inl none, h.sb b (gcGo (h.mi u 3) (n - q) q R)) := by
  rw [dM_of (Nat.le_of_ble_eq_true rfl)]
  simp -implicitDefEqProofs only [D_319_0, k_319_0, v_aload_n, g_getfield, sv_o, rf_s, sv_i, g_istore_n, entL, getL, setL, kL_i, kL_r, isI_s, isR_s, isJ_s, gV_s, iV_i, cs0, cs1, cs2, cs3, cs4, dn_nil, kd_si, kd_sl, kd_sw, mr_si, mr_sl, mr_sw, ml_si, ml_sw, mi_sl, kd_sb, mr_sb, bm_13, st_k T, st_r13 T, st_kb T, hR1]
  exact l_319 hub hn T U (n - q) q R [] (by omega) hR (Or.inl rfl)
def gsGo (f t : Nat → Int32) (x : Int32) : Nat → Nat → Bool
  | 0, _ => false
  | d + 1, k => if x < f k then gsGo f t x d (k + 1) else if t k < x then gsGo f t x d (k + 1) else true
theorem R_283 : PG.2.1 283 = (some .boolean) := rfl
theorem l_283 {u n : Nat} {x : Int32} (hn : n ≤ 4) {h : Mm} (U : SU h u) (hm : h.mi u 8 = Int32.ofNat n) : ∀ d k : Nat, k + d = n → dB PG 283 2 [some (.ref u), some (.int x), some (.int (Int32.ofNat k))] [] h = some (.inl (some (.int (b2i (gsGo (h.mi (u + 1)) (h.mi (u + 2)) x d k)))), h) := by
  intro d
  induction d with
  | zero =>
    intro k hk
    have e : Int32.ofNat n ≤ Int32.ofNat k := by rw [i32_le (by omega) (by omega)]; omega
    have z : b2i (gsGo (h.mi (u + 1)) (h.mi (u + 2)) x 0 k) = 0 := rfl
    rw [z]
    simp -implicitDefEqProofs only [D_283_2, k_283_2, D_283_38, k_283_38, R_283, v_iload_n, v_aload_n, g_getfield, sv_i, rf_s, g_icmp_ge, sv_a, v_iaload, inI_0, g_icmp_lt, g_icmp_gt, g_iconst, g_ireturn, entL, getL, setL, kL_i, kL_r, isI_s, isR_s, isJ_s, gV_s, iV_i, cs0, cs1, cs2, cs3, cs4, dn_nil, kd_si, kd_sl, kd_sw, mr_si, mr_sl, mr_sw, ml_si, ml_sw, mi_sl, su_k U, hm, if_pos e, rX_0]
  | succ d ih =>
    intro k hk
    have e : ¬ Int32.ofNat n ≤ Int32.ofNat k := by rw [i32_le (by omega) (by omega)]; omega
    have s1 : Int32.ofNat k + 1 = Int32.ofNat (k + 1) := i32_add (b := 1)
    have b_1 : inb (Int32.ofNat (k)) 4 = true := inb_nat (by omega) (by decide)
    have n_1 : (Int32.ofNat (k)).toNatClampNeg = k := i32_nat (by omega)
    by_cases c : x < h.mi (u + 1) k
    · have z : gsGo (h.mi (u + 1)) (h.mi (u + 2)) x (d + 1) k = gsGo (h.mi (u + 1)) (h.mi (u + 2)) x d (k + 1) := if_pos c
      rw [z, ← ih (k + 1) (by omega), D_283_2]
      simp -implicitDefEqProofs only [k_283_2, D_283_32, k_283_32, R_283, v_iload_n, v_aload_n, g_getfield, sv_i, rf_s, g_icmp_ge, sv_a, v_iaload, inI_0, g_icmp_lt, g_icmp_gt, g_iconst, g_ireturn, v_iinc, g_goto, entL, getL, setL, kL_i, kL_r, isI_s, isR_s, isJ_s, gV_s, iV_i, cs0, cs1, cs2, cs3, cs4, dn_nil, kd_si, kd_sl, kd_sw, mr_si, mr_sl, mr_sw, ml_si, ml_sw, mi_sl, su_k U, su_r9 U, su_k1 U, hm, if_neg e, b_1, n_1, if_pos c, s1]
    · by_cases c2 : h.mi (u + 2) k < x
      · have z : gsGo (h.mi (u + 1)) (h.mi (u + 2)) x (d + 1) k = gsGo (h.mi (u + 1)) (h.mi (u + 2)) x d (k + 1) := by
          show (if x < h.mi (u + 1) k then _ else if h.mi (u + 2) k < x then _ else true) = _
          rw [if_neg c, if_pos c2]
        rw [z, ← ih (k + 1) (by omega), D_283_2]
        simp -implicitDefEqProofs only [k_283_2, D_283_32, k_283_32, R_283, v_iload_n, v_aload_n, g_getfield, sv_i, rf_s, g_icmp_ge, sv_a, v_iaload, inI_0, g_icmp_lt, g_icmp_gt, g_iconst, g_ireturn, v_iinc, g_goto, entL, getL, setL, kL_i, kL_r, isI_s, isR_s, isJ_s, gV_s, iV_i, cs0, cs1, cs2, cs3, cs4, dn_nil, kd_si, kd_sl, kd_sw, mr_si, mr_sl, mr_sw, ml_si, ml_sw, mi_sl, su_k U, su_r9 U, su_k1 U, su_r10 U, su_k2 U, hm, if_neg e, b_1, n_1, if_neg c, if_pos c2, s1]
      · have z : gsGo (h.mi (u + 1)) (h.mi (u + 2)) x (d + 1) k = true := by
          show (if x < h.mi (u + 1) k then _ else if h.mi (u + 2) k < x then _ else true) = _
          rw [if_neg c, if_neg c2]
        rw [z]
        simp -implicitDefEqProofs only [D_283_2, k_283_2, D_283_32, k_283_32, R_283, v_iload_n, v_aload_n, g_getfield, sv_i, rf_s, g_icmp_ge, sv_a, v_iaload, inI_0, g_icmp_lt, g_icmp_gt, g_iconst, g_ireturn, v_iinc, g_goto, entL, getL, setL, kL_i, kL_r, isI_s, isR_s, isJ_s, gV_s, iV_i, cs0, cs1, cs2, cs3, cs4, dn_nil, kd_si, kd_sl, kd_sw, mr_si, mr_sl, mr_sw, ml_si, ml_sw, mi_sl, su_k U, su_r9 U, su_k1 U, su_r10 U, su_k2 U, hm, if_neg e, b_1, n_1, if_neg c, if_neg c2, rX_1, b2i_1]
theorem m_283 {u n : Nat} {x : Int32} (hn : n ≤ 4) {h : Mm} (U : SU h u) (hm : h.mi u 8 = Int32.ofNat n) : dM PG 283 [.ref u, .int x] h = some (.inl (some (.int (b2i (gsGo (h.mi (u + 1)) (h.mi (u + 2)) x n 0)))), h) := by
  rw [dM_of (Nat.le_of_ble_eq_true rfl)]
  simp -implicitDefEqProofs only [D_283_0, k_283_0, g_iconst, g_istore_n, entL, getL, setL, kL_i, kL_r, isI_s, isR_s, isJ_s, gV_s, iV_i, cs0, cs1, cs2, cs3, cs4, dn_nil, kd_si, kd_sl, kd_sw, mr_si, mr_sl, mr_sw, ml_si, ml_sw, mi_sl]
  exact l_283 hn U hm n 0 (by omega)
def opB (R : Nat → Nat → Int32) (i : Nat) (k p : Int32) : Bool := decide (R 10 i = 4 ∧ R 9 i = k ∧ R 11 i = p)
theorem R_323 : PG.2.1 323 = (some .boolean) := rfl
theorem m_323 {b i : Nat} (hi : i < 80) {k p : Int32} {h : Mm} (T : ST h b) {R : Nat → Nat → Int32} : dM PG 323 [.ref (b + 7), .int (Int32.ofNat i), .int k, .int p] (h.sb b R) = some (.inl (some (.int (b2i (opB R i k p)))), h.sb b R) := by
  rw [dM_of (Nat.le_of_ble_eq_true rfl)]
  have b_1 : inb (Int32.ofNat (i)) 80 = true := inb_nat (by omega) (by decide)
  have n_1 : (Int32.ofNat (i)).toNatClampNeg = i := i32_nat (by omega)
  by_cases c1 : R 10 i = 4
  · by_cases c2 : R 9 i = k
    · by_cases c3 : R 11 i = p
      · have z : b2i (opB R i k p) = 1 := by unfold opB; rw [decide_eq_true ⟨c1, c2, c3⟩]; rfl
        rw [z]
        simp -implicitDefEqProofs only [D_323_0, k_323_0, D_323_35, k_323_35, R_323, v_aload_n, g_getfield, sv_a, rf_s, v_iload_n, v_iaload, inI_0, g_iconst, g_icmp_ne, g_goto, g_ireturn, entL, getL, setL, kL_i, kL_r, isI_s, isR_s, isJ_s, gV_s, iV_i, cs0, cs1, cs2, cs3, cs4, dn_nil, kd_si, kd_sl, kd_sw, mr_si, mr_sl, mr_sw, ml_si, ml_sw, mi_sl, kd_sb, mr_sb, bm_9, bm_10, bm_11, st_ki T, st_i3 T, st_i4 T, st_i5 T, st_k9 T, st_k10 T, st_k11 T, b_1, n_1, if_pos c1, if_pos c2, if_pos c3, rX_1]
      · have z : b2i (opB R i k p) = 0 := by unfold opB; rw [decide_eq_false (fun q => c3 q.2.2)]; rfl
        rw [z]
        simp -implicitDefEqProofs only [D_323_0, k_323_0, D_323_34, k_323_34, D_323_35, k_323_35, R_323, v_aload_n, g_getfield, sv_a, rf_s, v_iload_n, v_iaload, inI_0, g_iconst, g_icmp_ne, g_goto, g_ireturn, entL, getL, setL, kL_i, kL_r, isI_s, isR_s, isJ_s, gV_s, iV_i, cs0, cs1, cs2, cs3, cs4, dn_nil, kd_si, kd_sl, kd_sw, mr_si, mr_sl, mr_sw, ml_si, ml_sw, mi_sl, kd_sb, mr_sb, bm_9, bm_10, bm_11, st_ki T, st_i3 T, st_i4 T, st_i5 T, st_k9 T, st_k10 T, st_k11 T, b_1, n_1, if_pos c1, if_pos c2, if_neg c3, rX_0]
    · have z : b2i (opB R i k p) = 0 := by unfold opB; rw [decide_eq_false (fun q => c2 q.2.1)]; rfl
      rw [z]
      simp -implicitDefEqProofs only [D_323_0, k_323_0, D_323_34, k_323_34, D_323_35, k_323_35, R_323, v_aload_n, g_getfield, sv_a, rf_s, v_iload_n, v_iaload, inI_0, g_iconst, g_icmp_ne, g_goto, g_ireturn, entL, getL, setL, kL_i, kL_r, isI_s, isR_s, isJ_s, gV_s, iV_i, cs0, cs1, cs2, cs3, cs4, dn_nil, kd_si, kd_sl, kd_sw, mr_si, mr_sl, mr_sw, ml_si, ml_sw, mi_sl, kd_sb, mr_sb, bm_9, bm_10, bm_11, st_ki T, st_i3 T, st_i4 T, st_i5 T, st_k9 T, st_k10 T, st_k11 T, b_1, n_1, if_pos c1, if_neg c2, rX_0]
  · have z : b2i (opB R i k p) = 0 := by unfold opB; rw [decide_eq_false (fun q => c1 q.1)]; rfl
    rw [z]
    simp -implicitDefEqProofs only [D_323_0, k_323_0, D_323_34, k_323_34, D_323_35, k_323_35, R_323, v_aload_n, g_getfield, sv_a, rf_s, v_iload_n, v_iaload, inI_0, g_iconst, g_icmp_ne, g_goto, g_ireturn, entL, getL, setL, kL_i, kL_r, isI_s, isR_s, isJ_s, gV_s, iV_i, cs0, cs1, cs2, cs3, cs4, dn_nil, kd_si, kd_sl, kd_sw, mr_si, mr_sl, mr_sw, ml_si, ml_sw, mi_sl, kd_sb, mr_sb, bm_9, bm_10, bm_11, st_ki T, st_i3 T, st_i4 T, st_i5 T, st_k9 T, st_k10 T, st_k11 T, b_1, n_1, if_neg c1, rX_0]
def gmStep (k p x : Int32) (i : Nat) (R : Nat → Nat → Int32) : Nat → Nat → Int32 := if opB R i k p = true then zu2 (zu2 R 10 i 5) 11 i x else R
theorem gmStep_c {k p x : Int32} {i o j : Nat} {R : Nat → Nat → Int32} (h1 : o ≠ 10) (h2 : o ≠ 11) : gmStep k p x i R o j = R o j := by
  unfold gmStep; split
  · rw [z2_o h2, z2_o h1]
  · rfl
theorem R_312 : PG.2.1 312 = none := rfl
theorem l_312 {b m : Nat} (hm : m ≤ 80) {k p x : Int32} {h : Mm} (T : ST h b) : ∀ (d i : Nat) (R : Nat → Nat → Int32), i + d = m → R 7 0 = Int32.ofNat m → dB PG 312 3 [some (.ref (b + 7)), some (.int k), some (.int p), some (.int x), some (.int (Int32.ofNat i))] [] (h.sb b R) = some (.inl none, h.sb b (fl (gmStep k p x) d i R)) := by
  intro d
  induction d with
  | zero =>
    intro i R hi hR
    have e : Int32.ofNat m ≤ Int32.ofNat i := by rw [i32_le (by omega) (by omega)]; omega
    simp -implicitDefEqProofs only [D_312_3, k_312_3, D_312_45, k_312_45, R_312, v_iload, v_aload_n, g_getfield, sv_i, rf_s, g_icmp_ge, v_iload_n, v_callV4, aft_v, aft_n, g_if_eq, sv_a, g_iconst, v_iastore, wrI_0, g_return, entL, getL, setL, kL_i, kL_r, isI_s, isR_s, isJ_s, gV_s, iV_i, cs0, cs1, cs2, cs3, cs4, dn_nil, kd_si, kd_sl, kd_sw, mr_si, mr_sl, mr_sw, ml_si, ml_sw, mi_sl, kd_sb, mr_sb, bm_7, st_ki T, hR, if_pos e]
    rfl
  | succ d ih =>
    intro i R hi hR
    have e : ¬ Int32.ofNat m ≤ Int32.ofNat i := by rw [i32_le (by omega) (by omega)]; omega
    have s1 : Int32.ofNat i + 1 = Int32.ofNat (i + 1) := i32_add (b := 1)
    have b_1 : inb (Int32.ofNat (i)) 80 = true := inb_nat (by omega) (by decide)
    have n_1 : (Int32.ofNat (i)).toNatClampNeg = i := i32_nat (by omega)
    have z : fl (gmStep k p x) (d + 1) i R = fl (gmStep k p x) d (i + 1) (gmStep k p x i R) := rfl
    rw [z, ← ih (i + 1) (gmStep k p x i R) (by omega) (by rw [gmStep_c (by decide) (by decide), hR]), D_312_3]
    cases g : opB R i k p with
    | true =>
      have y : gmStep k p x i R = zu2 (zu2 R 10 i 5) 11 i x := if_pos g
      rw [y]
      simp -implicitDefEqProofs only [k_312_3, D_312_39, k_312_39, v_iload, v_aload_n, g_getfield, sv_i, rf_s, g_icmp_ge, v_iload_n, v_callV4, aft_v, aft_n, g_if_eq, sv_a, g_iconst, v_iastore, wrI_0, v_iinc, g_goto, entL, getL, setL, kL_i, kL_r, isI_s, isR_s, isJ_s, gV_s, iV_i, cs0, cs1, cs2, cs3, cs4, dn_nil, kd_si, kd_sl, kd_sw, mr_si, mr_sl, mr_sw, ml_si, ml_sw, mi_sl, kd_sb, mr_sb, bm_7, bs_10, bs_11, st_ki T, st_i4 T, st_i5 T, st_k10 T, st_k11 T, hR, if_neg e, m_323 (show i < 80 by omega) T, g, b2i_1, if_neg z_1, b_1, n_1, s1]
    | false =>
      have y : gmStep k p x i R = R := if_neg (by rw [g]; decide)
      rw [y]
      simp -implicitDefEqProofs only [k_312_3, D_312_39, k_312_39, v_iload, v_aload_n, g_getfield, sv_i, rf_s, g_icmp_ge, v_iload_n, v_callV4, aft_v, aft_n, g_if_eq, sv_a, g_iconst, v_iastore, wrI_0, v_iinc, g_goto, entL, getL, setL, kL_i, kL_r, isI_s, isR_s, isJ_s, gV_s, iV_i, cs0, cs1, cs2, cs3, cs4, dn_nil, kd_si, kd_sl, kd_sw, mr_si, mr_sl, mr_sw, ml_si, ml_sw, mi_sl, kd_sb, mr_sb, bm_7, st_ki T, hR, if_neg e, m_323 (show i < 80 by omega) T, g, b2i_0, if_true, s1]
theorem m_312 {b m : Nat} (hm : m ≤ 80) {k p x : Int32} {h : Mm} (T : ST h b) {R : Nat → Nat → Int32} (hR : R 7 0 = Int32.ofNat m) : dM PG 312 [.ref (b + 7), .int k, .int p, .int x] (h.sb b R) = some (.inl none, h.sb b (fl (gmStep k p x) m 0 R)) := by
  rw [dM_of (Nat.le_of_ble_eq_true rfl)]
  simp -implicitDefEqProofs only [D_312_0, k_312_0, g_iconst, g_istore, entL, getL, setL, kL_i, kL_r, isI_s, isR_s, isJ_s, gV_s, iV_i, cs0, cs1, cs2, cs3, cs4, dn_nil, kd_si, kd_sl, kd_sw, mr_si, mr_sl, mr_sw, ml_si, ml_sw, mi_sl]
  exact l_312 hm T m 0 R (by omega) hR
def gbA (R : Nat → Nat → Int32) (n : Nat) (k w t tm : Int32) : Nat → Nat → Int32 := zu2 (zu2 (zu2 (zu2 (zu2 (zu2 R 14 n k) 15 n w) 16 n t) 17 n tm) 18 n (-1)) 13 0 (Int32.ofNat (n + 1))
theorem R_311 : PG.2.1 311 = (some .int) := rfl
theorem m_311 {b n : Nat} (hn : n < 80) {k w t tm : Int32} {h : Mm} (T : ST h b) {R : Nat → Nat → Int32} (hR : R 13 0 = Int32.ofNat n) : dM PG 311 [.ref (b + 13), .int k, .int w, .int t, .int tm] (h.sb b R) = some (.inl (some (.int (Int32.ofNat n))), h.sb b (gbA R n k w t tm)) := by
  rw [dM_of (Nat.le_of_ble_eq_true rfl)]
  have b_1 : inb (Int32.ofNat (n)) 80 = true := inb_nat (by omega) (by decide)
  have n_1 : (Int32.ofNat (n)).toNatClampNeg = n := i32_nat (by omega)
  have s1 : Int32.ofNat n + 1 = Int32.ofNat (n + 1) := i32_add (b := 1)
  have mn : (if (79 : Int32) < Int32.ofNat n then (79 : Int32) else Int32.ofNat n) = Int32.ofNat n := by
    rw [if_neg]
    show ¬ Int32.ofNat 79 < Int32.ofNat n
    rw [i32_lt (by decide) (by omega)]; omega
  unfold gbA
  simp -implicitDefEqProofs only [D_311_0, k_311_0, R_311, v_aload_n, g_getfield, sv_i, rf_s, g_bipush, g_min, g_istore, sv_a, v_iload, v_iload_n, v_iastore, wrI_0, g_iconst, g_iadd, g_put_i, g_ireturn, entL, getL, setL, kL_i, kL_r, isI_s, isR_s, isJ_s, gV_s, iV_i, cs0, cs1, cs2, cs3, cs4, dn_nil, kd_si, kd_sl, kd_sw, mr_si, mr_sl, mr_sw, ml_si, ml_sw, mi_sl, kd_sb, mr_sb, bm_13, bs_13, bs_14, bs_15, bs_16, bs_17, bs_18, st_kb T, st_b2 T, st_b3 T, st_b4 T, st_b5 T, st_b6 T, st_k14 T, st_k15 T, st_k16 T, st_k17 T, st_k18 T, hR, mn, b_1, n_1, s1, retX_int]
