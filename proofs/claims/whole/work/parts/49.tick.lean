-- ===== the model: stops, lateness, ice =====
theorem la_16 : (16 : Int32).toNatClampNeg = 16 := by decide
theorem i26_lt {a : Nat} (h : a < 26) : inb (Int32.ofNat a) 26 = true := inb_nat h (by decide)
def stGo (pl : Nat → Int32) (t : Int32) : Nat → Nat → Bool
  | 0, _ => false
  | d + 1, k => if inF t (pl (17 + k)) (pl (21 + k)) = 0 then stGo pl t d (k + 1) else true
theorem R_204 : PG.2.1 204 = (some .boolean) := rfl
theorem l_204 {t : Int32} {n : Nat} (hn : n ≤ 4) {h : Mm} (H : MO h) (hm : h.mi 279 16 = Int32.ofNat n) : ∀ d k : Nat, k + d = n → dB PG 204 2 [some (.ref 277), some (.int t), some (.int (Int32.ofNat k))] [] h = some (.inl (some (.int (b2i (stGo (h.mi 279) t d k)))), h) := by
  intro d
  induction d with
  | zero =>
    intro k hk
    have e : Int32.ofNat n ≤ Int32.ofNat k := by rw [i32_le (by omega) (by omega)]; omega
    have z : b2i (stGo (h.mi 279) t 0 k) = 0 := rfl
    rw [z]
    simp -implicitDefEqProofs only [D_204_2, k_204_2, D_204_46, k_204_46, R_204, v_iload_n, v_aload_n, g_getfield, sv_a, rf_s, g_bipush, v_iaload, inI_0, g_icmp_ge, g_iadd, v_callS3, aft_v, aft_n, g_if_eq, g_iconst, g_ireturn, entL, getL, setL, kL_i, kL_r, isI_s, isR_s, isJ_s, gV_s, iV_i, cs0, cs1, cs2, cs3, cs4, dn_nil, kd_si, kd_sl, kd_sw, mr_si, mr_sl, mr_sw, ml_si, ml_sw, mi_sl, mk_277 H, mr_11 H, mk_279 H, ip_16, ix_16, hm, if_pos e, rX_0]
  | succ d ih =>
    intro k hk
    have e : ¬ Int32.ofNat n ≤ Int32.ofNat k := by rw [i32_le (by omega) (by omega)]; omega
    have s1 : Int32.ofNat k + 1 = Int32.ofNat (k + 1) := i32_add (b := 1)
    have b_1 : inb (Int32.ofNat (17 + k)) 26 = true := inb_nat (by omega) (by decide)
    have n_1 : (Int32.ofNat (17 + k)).toNatClampNeg = 17 + k := i32_nat (by omega)
    have b_2 : inb (Int32.ofNat (21 + k)) 26 = true := inb_nat (by omega) (by decide)
    have n_2 : (Int32.ofNat (21 + k)).toNatClampNeg = 21 + k := i32_nat (by omega)
    rw [D_204_2]
    by_cases c : inF t (h.mi 279 (17 + k)) (h.mi 279 (21 + k)) = 0
    · have z : stGo (h.mi 279) t (d + 1) k = stGo (h.mi 279) t d (k + 1) := if_pos c
      rw [z, ← ih (k + 1) (by omega)]
      simp -implicitDefEqProofs only [k_204_2, D_204_40, k_204_40, R_204, v_iload_n, v_aload_n, g_getfield, sv_a, rf_s, g_bipush, v_iaload, inI_0, g_icmp_ge, g_iadd, v_callS3, aft_v, aft_n, g_if_eq, g_iconst, g_ireturn, v_iinc, g_goto, entL, getL, setL, kL_i, kL_r, isI_s, isR_s, isJ_s, gV_s, iV_i, cs0, cs1, cs2, cs3, cs4, dn_nil, kd_si, kd_sl, kd_sw, mr_si, mr_sl, mr_sw, ml_si, ml_sw, mi_sl, mk_277 H, mr_11 H, mk_279 H, ip_16, ix_16, hm, if_neg e, la_17, la_21, b_1, n_1, b_2, n_2, m_136, c, if_true, s1]
    · have z : stGo (h.mi 279) t (d + 1) k = true := if_neg c
      rw [z]
      simp -implicitDefEqProofs only [k_204_2, D_204_40, k_204_40, R_204, v_iload_n, v_aload_n, g_getfield, sv_a, rf_s, g_bipush, v_iaload, inI_0, g_icmp_ge, g_iadd, v_callS3, aft_v, aft_n, g_if_eq, g_iconst, g_ireturn, v_iinc, g_goto, entL, getL, setL, kL_i, kL_r, isI_s, isR_s, isJ_s, gV_s, iV_i, cs0, cs1, cs2, cs3, cs4, dn_nil, kd_si, kd_sl, kd_sw, mr_si, mr_sl, mr_sw, ml_si, ml_sw, mi_sl, mk_277 H, mr_11 H, mk_279 H, ip_16, ix_16, hm, if_neg e, la_17, la_21, b_1, n_1, b_2, n_2, m_136, if_neg c, rX_1, b2i_1]
theorem m_204 {t : Int32} {n : Nat} (hn : n ≤ 4) {h : Mm} (H : MO h) (hm : h.mi 279 16 = Int32.ofNat n) : dM PG 204 [.ref 277, .int t] h = some (.inl (some (.int (b2i (stGo (h.mi 279) t n 0)))), h) := by
  rw [dM_of (Nat.le_of_ble_eq_true rfl)]
  simp -implicitDefEqProofs only [D_204_0, k_204_0, g_iconst, g_istore_n, entL, getL, setL, kL_i, kL_r, isI_s, isR_s, isJ_s, gV_s, iV_i, cs0, cs1, cs2, cs3, cs4, dn_nil, kd_si, kd_sl, kd_sw, mr_si, mr_sl, mr_sw, ml_si, ml_sw, mi_sl]
  exact l_204 hn H hm n 0 (by omega)
def lateB (S : Nat → Int32) (b : Nat) : Bool := decide (S (1008 + b) < (if S (1088 + b) = -1 then S 0 else S (1088 + b)))
theorem R_243 : PG.2.1 243 = (some .boolean) := rfl
theorem m_243 {s b : Nat} (hb : b < 80) {h : Mm} (hk : h.kd s = some (.inr (.int, 1168))) : dM PG 243 [.ref s, .int (Int32.ofNat b)] h = some (.inl (some (.int (b2i (lateB (h.mi s) b)))), h) := by
  rw [dM_of (Nat.le_of_ble_eq_true rfl)]
  have b_1 : inb (Int32.ofNat (1008 + b)) 1168 = true := inb_nat (by omega) (by decide)
  have n_1 : (Int32.ofNat (1008 + b)).toNatClampNeg = 1008 + b := i32_nat (by omega)
  have b_2 : inb (Int32.ofNat (1088 + b)) 1168 = true := inb_nat (by omega) (by decide)
  have n_2 : (Int32.ofNat (1088 + b)).toNatClampNeg = 1088 + b := i32_nat (by omega)
  by_cases w : h.mi s (1088 + b) = -1
  · by_cases c : h.mi s (1008 + b) < h.mi s 0
    · have z : b2i (lateB (h.mi s) b) = 1 := by unfold lateB; rw [if_pos w, decide_eq_true c]; rfl
      have c2 : ¬ h.mi s 0 ≤ h.mi s (1008 + b) := Int32.not_le.mpr c
      rw [z]
      simp -implicitDefEqProofs only [D_243_0, k_243_0, D_243_24, k_243_24, D_243_39, k_243_39, R_243, v_aload_n, g_sipush, v_iload_n, g_iadd, v_iaload, inI_0, g_iconst, g_icmp_ne, g_goto, g_icmp_le, g_ireturn, entL, getL, setL, kL_i, kL_r, isI_s, isR_s, isJ_s, gV_s, iV_i, cs0, cs1, cs2, cs3, cs4, dn_nil, kd_si, kd_sl, kd_sw, mr_si, mr_sl, mr_sw, ml_si, ml_sw, mi_sl, hk, la_1008, la_1088, b_1, n_1, b_2, n_2, in_0, ix_0, if_pos w, if_neg c2, rX_1]
    · have z : b2i (lateB (h.mi s) b) = 0 := by unfold lateB; rw [if_pos w, decide_eq_false c]; rfl
      have c2 : h.mi s 0 ≤ h.mi s (1008 + b) := Int32.not_lt.mp c
      rw [z]
      simp -implicitDefEqProofs only [D_243_0, k_243_0, D_243_24, k_243_24, D_243_38, k_243_38, D_243_39, k_243_39, R_243, v_aload_n, g_sipush, v_iload_n, g_iadd, v_iaload, inI_0, g_iconst, g_icmp_ne, g_goto, g_icmp_le, g_ireturn, entL, getL, setL, kL_i, kL_r, isI_s, isR_s, isJ_s, gV_s, iV_i, cs0, cs1, cs2, cs3, cs4, dn_nil, kd_si, kd_sl, kd_sw, mr_si, mr_sl, mr_sw, ml_si, ml_sw, mi_sl, hk, la_1008, la_1088, b_1, n_1, b_2, n_2, in_0, ix_0, if_pos w, if_pos c2, rX_0]
  · by_cases c : h.mi s (1008 + b) < h.mi s (1088 + b)
    · have z : b2i (lateB (h.mi s) b) = 1 := by unfold lateB; rw [if_neg w, decide_eq_true c]; rfl
      have c2 : ¬ h.mi s (1088 + b) ≤ h.mi s (1008 + b) := Int32.not_le.mpr c
      rw [z]
      simp -implicitDefEqProofs only [D_243_0, k_243_0, D_243_17, k_243_17, D_243_24, k_243_24, D_243_39, k_243_39, R_243, v_aload_n, g_sipush, v_iload_n, g_iadd, v_iaload, inI_0, g_iconst, g_icmp_ne, g_goto, g_icmp_le, g_ireturn, entL, getL, setL, kL_i, kL_r, isI_s, isR_s, isJ_s, gV_s, iV_i, cs0, cs1, cs2, cs3, cs4, dn_nil, kd_si, kd_sl, kd_sw, mr_si, mr_sl, mr_sw, ml_si, ml_sw, mi_sl, hk, la_1008, la_1088, b_1, n_1, b_2, n_2, in_0, ix_0, if_neg w, if_neg c2, rX_1]
    · have z : b2i (lateB (h.mi s) b) = 0 := by unfold lateB; rw [if_neg w, decide_eq_false c]; rfl
      have c2 : h.mi s (1088 + b) ≤ h.mi s (1008 + b) := Int32.not_lt.mp c
      rw [z]
      simp -implicitDefEqProofs only [D_243_0, k_243_0, D_243_17, k_243_17, D_243_24, k_243_24, D_243_38, k_243_38, D_243_39, k_243_39, R_243, v_aload_n, g_sipush, v_iload_n, g_iadd, v_iaload, inI_0, g_iconst, g_icmp_ne, g_goto, g_icmp_le, g_ireturn, entL, getL, setL, kL_i, kL_r, isI_s, isR_s, isJ_s, gV_s, iV_i, cs0, cs1, cs2, cs3, cs4, dn_nil, kd_si, kd_sl, kd_sw, mr_si, mr_sl, mr_sw, ml_si, ml_sw, mi_sl, hk, la_1008, la_1088, b_1, n_1, b_2, n_2, in_0, ix_0, if_neg w, if_pos c2, rX_0]
/-- a fold over numbers from b on -/
def fl {A : Type} (f : Nat → A → A) : Nat → Nat → A → A
  | 0, _, a => a
  | d + 1, b, a => fl f d (b + 1) (f b a)
def lateF (S : Nat → Int32) (n : Nat) : Int32 := fl (fun b a => a + b2i (lateB S b)) n 0 0
theorem R_186 : PG.2.1 186 = (some .int) := rfl
theorem l_186 {s n : Nat} (hn : n ≤ 80) {h : Mm} (hk : h.kd s = some (.inr (.int, 1168))) (hm : h.mi s 8 = Int32.ofNat n) : ∀ (d b : Nat) (x : Int32), b + d = n → dB PG 186 4 [some (.ref s), some (.int x), some (.int (Int32.ofNat b))] [] h = some (.inl (some (.int (fl (fun b a => a + b2i (lateB (h.mi s) b)) d b x))), h) := by
  intro d
  induction d with
  | zero =>
    intro b x hb
    have e : Int32.ofNat n ≤ Int32.ofNat b := by rw [i32_le (by omega) (by omega)]; omega
    simp -implicitDefEqProofs only [D_186_4, k_186_4, D_186_34, k_186_34, R_186, v_iload_n, v_aload_n, g_bipush, v_iaload, inI_0, g_icmp_ge, v_callS2, aft_v, aft_n, g_if_eq, g_iconst, g_goto, g_ireturn, entL, getL, setL, kL_i, kL_r, isI_s, isR_s, isJ_s, gV_s, iV_i, cs0, cs1, cs2, cs3, cs4, dn_nil, kd_si, kd_sl, kd_sw, mr_si, mr_sl, mr_sw, ml_si, ml_sw, mi_sl, hk, in_8, ix_8, hm, if_pos e, retX_int]
    rfl
  | succ d ih =>
    intro b x hb
    have e : ¬ Int32.ofNat n ≤ Int32.ofNat b := by rw [i32_le (by omega) (by omega)]; omega
    have s1 : Int32.ofNat b + 1 = Int32.ofNat (b + 1) := i32_add (b := 1)
    have z : fl (fun b a => a + b2i (lateB (h.mi s) b)) (d + 1) b x = fl (fun b a => a + b2i (lateB (h.mi s) b)) d (b + 1) (x + b2i (lateB (h.mi s) b)) := rfl
    rw [D_186_4, z, ← ih (b + 1) _ (by omega)]
    cases c : lateB (h.mi s) b with
    | false =>
      simp -implicitDefEqProofs only [k_186_4, D_186_25, k_186_25, D_186_26, k_186_26, v_iload_n, v_aload_n, g_bipush, v_iaload, inI_0, g_icmp_ge, v_callS2, aft_v, aft_n, g_if_eq, g_iconst, g_goto, g_iadd, g_istore_n, v_iinc, entL, getL, setL, kL_i, kL_r, isI_s, isR_s, isJ_s, gV_s, iV_i, cs0, cs1, cs2, cs3, cs4, dn_nil, kd_si, kd_sl, kd_sw, mr_si, mr_sl, mr_sw, ml_si, ml_sw, mi_sl, hk, in_8, ix_8, hm, if_neg e, m_243 (show b < 80 by omega) hk, c, b2i_0, if_true, s1]
    | true =>
      simp -implicitDefEqProofs only [k_186_4, D_186_25, k_186_25, D_186_26, k_186_26, v_iload_n, v_aload_n, g_bipush, v_iaload, inI_0, g_icmp_ge, v_callS2, aft_v, aft_n, g_if_eq, g_iconst, g_goto, g_iadd, g_istore_n, v_iinc, entL, getL, setL, kL_i, kL_r, isI_s, isR_s, isJ_s, gV_s, iV_i, cs0, cs1, cs2, cs3, cs4, dn_nil, kd_si, kd_sl, kd_sw, mr_si, mr_sl, mr_sw, ml_si, ml_sw, mi_sl, hk, in_8, ix_8, hm, if_neg e, m_243 (show b < 80 by omega) hk, c, b2i_1, if_neg z_1, s1]
theorem m_186 {s n : Nat} (hn : n ≤ 80) {h : Mm} (hk : h.kd s = some (.inr (.int, 1168))) (hm : h.mi s 8 = Int32.ofNat n) : dM PG 186 [.ref s] h = some (.inl (some (.int (lateF (h.mi s) n))), h) := by
  rw [dM_of (Nat.le_of_ble_eq_true rfl)]
  simp -implicitDefEqProofs only [D_186_0, k_186_0, g_iconst, g_istore_n, entL, getL, setL, kL_i, kL_r, isI_s, isR_s, isJ_s, gV_s, iV_i, cs0, cs1, cs2, cs3, cs4, dn_nil, kd_si, kd_sl, kd_sw, mr_si, mr_sl, mr_sw, ml_si, ml_sw, mi_sl]
  exact l_186 hn hk hm n 0 0 (by omega)
