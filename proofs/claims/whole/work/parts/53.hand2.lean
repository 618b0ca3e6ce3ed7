-- ===== the model: the next item is handled =====
def hdA (S : Nat → Int32) : Nat → Int32 := zu S 5 (S 5 + 1)
def hdR (S : Nat → Int32) (i : Nat) : Nat → Int32 := zu (zu (hdA S) (48 + i) 1) 6 (zu (hdA S) (48 + i) 1 6 + 1)
def hdD (S : Nat → Int32) (k i : Nat) : Nat → Int32 := zu (zu (hdA S) (48 + i) 2) (22 + k) (zu (hdA S) (48 + i) 2 (22 + k) + zu (hdA S) (48 + i) 2 (208 + i))
def hdL (S : Nat → Int32) (k i : Nat) : Nat → Int32 := zu (hdA S) (18 + k) (hdA S (18 + k) + hdA S (208 + i))
def hdP3 (S : Nat → Int32) (k i : Nat) : Nat → Int32 := zu (hdL S k i) (48 + i) 3
def hdP4 (S : Nat → Int32) (k i pc : Nat) : Nat → Int32 := zu (hdP3 S k i) (38 + pc) (Int32.ofNat i)
def hdP (S : Nat → Int32) (k i pc : Nat) : Nat → Int32 := zu (hdP4 S k i pc) 7 (hdP4 S k i pc 7 + 1)
theorem hdA_ne {S : Nat → Int32} {j : Nat} (hj : j ≠ 5) : hdA S j = S j := zu_ne hj
theorem hdL_ne {S : Nat → Int32} {k i j : Nat} (hj : j ≠ 5) (hj2 : j ≠ 18 + k) : hdL S k i j = S j := (zu_ne hj2).trans (hdA_ne hj)
theorem R_278 : PG.2.1 278 = none := rfl
theorem m_278a {s i : Nat} {h : Mm} (hk : h.kd s = some (.inr (.int, 1168))) (h5 : h.mi s 5 = Int32.ofNat i) (h9 : h.mi s 9 = Int32.ofNat i) : dM PG 278 [.ref 277, .ref s] h = some (.inl none, h) := by
  rw [dM_of (Nat.le_of_ble_eq_true rfl)]
  simp -implicitDefEqProofs only [D_278_0, k_278_0, R_278, v_aload_n, g_iconst, v_iaload, inI_0, g_istore_n, v_iload_n, g_bipush, g_icmp_ne, g_return, entL, getL, setL, kL_i, kL_r, isI_s, isR_s, isJ_s, gV_s, iV_i, cs0, cs1, cs2, cs3, cs4, dn_nil, kd_si, kd_sl, kd_sw, mr_si, mr_sl, mr_sw, ml_si, ml_sw, mi_sl, hk, in_5, ix_5, in_9, ix_9, h5, h9, if_true]
theorem m_278b {s i m : Nat} (hi : i < m) (hm : m ≤ 80) {h : Mm} (hk : h.kd s = some (.inr (.int, 1168))) (h5 : h.mi s 5 = Int32.ofNat i) (h9 : h.mi s 9 = Int32.ofNat m) (hkd : h.mi s (288 + i) = -1) : dM PG 278 [.ref 277, .ref s] h = some (.inl none, h.sw s (hdR (h.mi s) i)) := by
  rw [dM_of (Nat.le_of_ble_eq_true rfl)]
  have b_1 : inb (Int32.ofNat (288 + i)) 1168 = true := inb_nat (by omega) (by decide)
  have n_1 : (Int32.ofNat (288 + i)).toNatClampNeg = 288 + i := i32_nat (by omega)
  have b_2 : inb (Int32.ofNat (48 + i)) 1168 = true := inb_nat (by omega) (by decide)
  have n_2 : (Int32.ofNat (48 + i)).toNatClampNeg = 48 + i := i32_nat (by omega)
  have e : ¬ Int32.ofNat i = Int32.ofNat m := fun e => by
    have := congrArg Int32.toNatClampNeg e
    rw [i32_nat (by omega), i32_nat (by omega)] at this; omega
  have q : zu (h.mi s) 5 (Int32.ofNat i + 1) (288 + i) = -1 := by rw [zu_ne (by omega), hkd]
  unfold hdR hdA
  rw [h5]
  simp -implicitDefEqProofs only [D_278_0, k_278_0, D_278_13, k_278_13, R_278, v_aload_n, g_iconst, v_iaload, inI_0, g_istore_n, v_iload_n, g_bipush, g_icmp_ne, g_return, g_dup2, g_iadd, v_iastore, wrI_0, g_sipush, entL, getL, setL, kL_i, kL_r, isI_s, isR_s, isJ_s, gV_s, iV_i, cs0, cs1, cs2, cs3, cs4, dn_nil, kd_si, kd_sl, kd_sw, mr_si, mr_sl, mr_sw, ml_si, ml_sw, mi_sl, hk, in_5, ix_5, in_9, ix_9, in_6, ix_6, h5, h9, if_neg e, la_288, la_48, b_1, n_1, b_2, n_2, si_sw (a := s), sw_sw, mi_sw, q, if_true]
theorem m_278c {s i m k : Nat} (hi : i < m) (hm : m ≤ 80) (hk4 : k < 4) {h : Mm} (hk : h.kd s = some (.inr (.int, 1168))) (h5 : h.mi s 5 = Int32.ofNat i) (h9 : h.mi s 9 = Int32.ofNat m) (hkd : h.mi s (288 + i) = Int32.ofNat k) (hq : ¬ hdA (h.mi s) (18 + k) + hdA (h.mi s) (208 + i) ≤ hdA (h.mi s) (14 + k)) : dM PG 278 [.ref 277, .ref s] h = some (.inl none, h.sw s (hdD (h.mi s) k i)) := by
  rw [dM_of (Nat.le_of_ble_eq_true rfl)]
  have b_1 : inb (Int32.ofNat (288 + i)) 1168 = true := inb_nat (by omega) (by decide)
  have n_1 : (Int32.ofNat (288 + i)).toNatClampNeg = 288 + i := i32_nat (by omega)
  have b_2 : inb (Int32.ofNat (48 + i)) 1168 = true := inb_nat (by omega) (by decide)
  have n_2 : (Int32.ofNat (48 + i)).toNatClampNeg = 48 + i := i32_nat (by omega)
  have b_3 : inb (Int32.ofNat (18 + k)) 1168 = true := inb_nat (by omega) (by decide)
  have n_3 : (Int32.ofNat (18 + k)).toNatClampNeg = 18 + k := i32_nat (by omega)
  have b_4 : inb (Int32.ofNat (208 + i)) 1168 = true := inb_nat (by omega) (by decide)
  have n_4 : (Int32.ofNat (208 + i)).toNatClampNeg = 208 + i := i32_nat (by omega)
  have b_5 : inb (Int32.ofNat (14 + k)) 1168 = true := inb_nat (by omega) (by decide)
  have n_5 : (Int32.ofNat (14 + k)).toNatClampNeg = 14 + k := i32_nat (by omega)
  have b_6 : inb (Int32.ofNat (22 + k)) 1168 = true := inb_nat (by omega) (by decide)
  have n_6 : (Int32.ofNat (22 + k)).toNatClampNeg = 22 + k := i32_nat (by omega)
  have e : ¬ Int32.ofNat i = Int32.ofNat m := fun e => by
    have := congrArg Int32.toNatClampNeg e
    rw [i32_nat (by omega), i32_nat (by omega)] at this; omega
  have q : zu (h.mi s) 5 (Int32.ofNat i + 1) (288 + i) = Int32.ofNat k := by rw [zu_ne (by omega), hkd]
  have q2 : ¬ Int32.ofNat k = -1 := oN_s (by omega)
  unfold hdD
  unfold hdA at hq ⊢
  rw [h5] at hq ⊢
  simp -implicitDefEqProofs only [D_278_0, k_278_0, D_278_13, k_278_13, D_278_49, k_278_49, R_278, v_aload_n, g_iconst, v_iaload, inI_0, g_istore_n, v_iload_n, g_bipush, g_icmp_ne, g_return, g_dup2, g_iadd, v_iastore, wrI_0, g_sipush, g_icmp_le, entL, getL, setL, kL_i, kL_r, isI_s, isR_s, isJ_s, gV_s, iV_i, cs0, cs1, cs2, cs3, cs4, dn_nil, kd_si, kd_sl, kd_sw, mr_si, mr_sl, mr_sw, ml_si, ml_sw, mi_sl, hk, in_5, ix_5, in_9, ix_9, h5, h9, if_neg e, la_288, la_48, la_18, la_208, la_14, la_22, b_1, n_1, b_2, n_2, b_3, n_3, b_4, n_4, b_5, n_5, b_6, n_6, si_sw (a := s), sw_sw, mi_sw, q, if_neg q2, if_neg hq]
theorem m_278d {s i m k nb pc : Nat} (hi : i < m) (hm : m ≤ 80) (hk4 : k < 4) (hnb : nb ≤ 3) (hpc : pc < 10) {h : Mm} (H : MO h) (h7 : s ≠ 279) (hk : h.kd s = some (.inr (.int, 1168))) (h5 : h.mi s 5 = Int32.ofNat i) (h9 : h.mi s 9 = Int32.ofNat m) (h77 : h.mi s 7 = Int32.ofNat pc) (hkd : h.mi s (288 + i) = Int32.ofNat k) (hp : h.mi 279 (8 + k) = Int32.ofNat nb) (hq : hdA (h.mi s) (18 + k) + hdA (h.mi s) (208 + i) ≤ hdA (h.mi s) (14 + k)) (hpl : placeF (hdL (h.mi s) k i) (h.mi 279) k i nb = none) : dM PG 278 [.ref 277, .ref s] h = some (.inl none, h.sw s (hdP (h.mi s) k i pc)) := by
  rw [dM_of (Nat.le_of_ble_eq_true rfl)]
  have b_1 : inb (Int32.ofNat (288 + i)) 1168 = true := inb_nat (by omega) (by decide)
  have n_1 : (Int32.ofNat (288 + i)).toNatClampNeg = 288 + i := i32_nat (by omega)
  have b_2 : inb (Int32.ofNat (48 + i)) 1168 = true := inb_nat (by omega) (by decide)
  have n_2 : (Int32.ofNat (48 + i)).toNatClampNeg = 48 + i := i32_nat (by omega)
  have b_3 : inb (Int32.ofNat (18 + k)) 1168 = true := inb_nat (by omega) (by decide)
  have n_3 : (Int32.ofNat (18 + k)).toNatClampNeg = 18 + k := i32_nat (by omega)
  have b_4 : inb (Int32.ofNat (208 + i)) 1168 = true := inb_nat (by omega) (by decide)
  have n_4 : (Int32.ofNat (208 + i)).toNatClampNeg = 208 + i := i32_nat (by omega)
  have b_5 : inb (Int32.ofNat (14 + k)) 1168 = true := inb_nat (by omega) (by decide)
  have n_5 : (Int32.ofNat (14 + k)).toNatClampNeg = 14 + k := i32_nat (by omega)
  have b_6 : inb (Int32.ofNat (38 + pc)) 1168 = true := inb_nat (by omega) (by decide)
  have n_6 : (Int32.ofNat (38 + pc)).toNatClampNeg = 38 + pc := i32_nat (by omega)
  have e : ¬ Int32.ofNat i = Int32.ofNat m := fun e => by
    have := congrArg Int32.toNatClampNeg e
    rw [i32_nat (by omega), i32_nat (by omega)] at this; omega
  have h72 : (279 : Nat) ≠ s := fun e => h7 e.symm
  have g := m_321 (h := h.sw s (hdL (h.mi s) k i)) (show i < 80 by omega) hk4 hnb H hk (by rw [mi_swo h72]; exact hp) (by rw [mi_sw, hdL_ne (by omega) (by omega), hkd])
  rw [mi_sw, mi_swo h72, hpl] at g
  have r7 : hdP3 (h.mi s) k i 7 = Int32.ofNat pc := by
    unfold hdP3; rw [zu_ne (by omega), hdL_ne (by omega) (by omega), h77]
  have q : zu (h.mi s) 5 (Int32.ofNat i + 1) (288 + i) = Int32.ofNat k := by rw [zu_ne (by omega), hkd]
  have q2 : ¬ Int32.ofNat k = -1 := oN_s (by omega)
  have en0 : oN none = -1 := rfl
  unfold hdP hdP4
  unfold hdP3 at r7 ⊢
  unfold hdL at g r7 ⊢
  unfold hdA at hq g r7 ⊢
  rw [h5] at hq g r7 ⊢
  simp -implicitDefEqProofs only [D_278_0, k_278_0, D_278_13, k_278_13, D_278_49, k_278_49, D_278_96, k_278_96, D_278_164, k_278_164, R_278, v_aload_n, g_iconst, v_iaload, inI_0, g_istore_n, v_iload_n, g_bipush, g_icmp_ne, g_return, g_dup2, g_iadd, v_iastore, wrI_0, g_sipush, g_icmp_le, v_callV3, aft_v, aft_n, g_istore, v_iload, g_goto, entL, getL, setL, kL_i, kL_r, isI_s, isR_s, isJ_s, gV_s, iV_i, cs0, cs1, cs2, cs3, cs4, dn_nil, kd_si, kd_sl, kd_sw, mr_si, mr_sl, mr_sw, ml_si, ml_sw, mi_sl, mk_277 H, hk, in_5, ix_5, in_9, ix_9, in_7, ix_7, h5, h9, if_neg e, la_288, la_48, la_18, la_208, la_14, la_38, b_1, n_1, b_2, n_2, b_3, n_3, b_4, n_4, b_5, n_5, b_6, n_6, si_sw (a := s), sw_sw, mi_sw, q, if_neg q2, if_pos hq, g, en0, if_true, r7]
theorem m_278e {s i m n k nb p : Nat} (hi : i < m) (hm : m ≤ 80) (hn : n < 80) (hk4 : k < 4) (hnb : nb ≤ 3) (hp3 : p < 3) {h : Mm} (H : MO h) (h7 : s ≠ 279) (hk : h.kd s = some (.inr (.int, 1168))) (h5 : h.mi s 5 = Int32.ofNat i) (h9 : h.mi s 9 = Int32.ofNat m) (h8 : h.mi s 8 = Int32.ofNat n) (hkd : h.mi s (288 + i) = Int32.ofNat k) (hp : h.mi 279 (8 + k) = Int32.ofNat nb) (hq : hdA (h.mi s) (18 + k) + hdA (h.mi s) (208 + i) ≤ hdA (h.mi s) (14 + k)) (hpl : placeF (hdL (h.mi s) k i) (h.mi 279) k i nb = some p) : dM PG 278 [.ref 277, .ref s] h = some (.inl none, h.sw s (putF (h.mi 279 6) (hdL (h.mi s) k i) k p i n m)) := by
  rw [dM_of (Nat.le_of_ble_eq_true rfl)]
  have b_1 : inb (Int32.ofNat (288 + i)) 1168 = true := inb_nat (by omega) (by decide)
  have n_1 : (Int32.ofNat (288 + i)).toNatClampNeg = 288 + i := i32_nat (by omega)
  have b_2 : inb (Int32.ofNat (48 + i)) 1168 = true := inb_nat (by omega) (by decide)
  have n_2 : (Int32.ofNat (48 + i)).toNatClampNeg = 48 + i := i32_nat (by omega)
  have b_3 : inb (Int32.ofNat (18 + k)) 1168 = true := inb_nat (by omega) (by decide)
  have n_3 : (Int32.ofNat (18 + k)).toNatClampNeg = 18 + k := i32_nat (by omega)
  have b_4 : inb (Int32.ofNat (208 + i)) 1168 = true := inb_nat (by omega) (by decide)
  have n_4 : (Int32.ofNat (208 + i)).toNatClampNeg = 208 + i := i32_nat (by omega)
  have b_5 : inb (Int32.ofNat (14 + k)) 1168 = true := inb_nat (by omega) (by decide)
  have n_5 : (Int32.ofNat (14 + k)).toNatClampNeg = 14 + k := i32_nat (by omega)
  have e : ¬ Int32.ofNat i = Int32.ofNat m := fun e => by
    have := congrArg Int32.toNatClampNeg e
    rw [i32_nat (by omega), i32_nat (by omega)] at this; omega
  have h72 : (279 : Nat) ≠ s := fun e => h7 e.symm
  have g := m_321 (h := h.sw s (hdL (h.mi s) k i)) (show i < 80 by omega) hk4 hnb H hk (by rw [mi_swo h72]; exact hp) (by rw [mi_sw, hdL_ne (by omega) (by omega), hkd])
  rw [mi_sw, mi_swo h72, hpl] at g
  have g2 := m_168 (h := h.sw s (hdL (h.mi s) k i)) (show i < 80 by omega) hk4 hp3 hn hm H h7 hk (by rw [mi_sw, hdL_ne (by omega) (by omega), h8]) (by rw [mi_sw, hdL_ne (by omega) (by omega), h9]) (by rw [mi_sw, hdL_ne (by omega) (by omega), hkd])
  rw [mi_sw, mi_swo h72, sw_sw] at g2
  have q : zu (h.mi s) 5 (Int32.ofNat i + 1) (288 + i) = Int32.ofNat k := by rw [zu_ne (by omega), hkd]
  have q2 : ¬ Int32.ofNat k = -1 := oN_s (by omega)
  have en : oN (some p) = Int32.ofNat p := rfl
  have en2 : ¬ Int32.ofNat p = -1 := oN_s (by omega)
  unfold hdL at g g2 ⊢
  unfold hdA at hq g g2 ⊢
  rw [h5] at hq g g2 ⊢
  simp -implicitDefEqProofs only [D_278_0, k_278_0, D_278_13, k_278_13, D_278_49, k_278_49, D_278_96, k_278_96, D_278_154, k_278_154, D_278_164, k_278_164, R_278, v_aload_n, g_iconst, v_iaload, inI_0, g_istore_n, v_iload_n, g_bipush, g_icmp_ne, g_return, g_dup2, g_iadd, v_iastore, wrI_0, g_sipush, g_icmp_le, v_callV3, aft_v, aft_n, g_istore, v_iload, g_goto, v_callV4, entL, getL, setL, kL_i, kL_r, isI_s, isR_s, isJ_s, gV_s, iV_i, cs0, cs1, cs2, cs3, cs4, dn_nil, kd_si, kd_sl, kd_sw, mr_si, mr_sl, mr_sw, ml_si, ml_sw, mi_sl, mk_277 H, hk, in_5, ix_5, in_9, ix_9, h5, h9, if_neg e, la_288, la_48, la_18, la_208, la_14, b_1, n_1, b_2, n_2, b_3, n_3, b_4, n_4, b_5, n_5, si_sw (a := s), sw_sw, mi_sw, q, if_neg q2, if_pos hq, g, g2, en, if_neg en2]
