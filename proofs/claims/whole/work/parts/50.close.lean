-- ===== the model: a box is closed, an item put =====
theorem lt_5 : (5 : Int32) = Int32.ofNat 5 := rfl
theorem in_10 {n : Nat} (h : n < 1168) : inb (Int32.ofNat n) 1168 = true := inb_nat h (by decide)
def mvStep (k p n : Nat) (i : Nat) (S : Nat → Int32) : Nat → Int32 := if S (48 + i) = 4 ∧ S (288 + i) = Int32.ofNat k ∧ S (128 + i) = Int32.ofNat p then zu (zu S (48 + i) 5) (128 + i) (Int32.ofNat n) else S
theorem zu_ne {α : Type} {f : Nat → α} {k j : Nat} {v : α} (h : j ≠ k) : zu f k v j = f j := if_neg h
theorem mvStep_9 {k p n i : Nat} {S : Nat → Int32} (hi : i < 80) : mvStep k p n i S 9 = S 9 := by
  unfold mvStep
  split
  · rw [zu_ne (by omega), zu_ne (by omega)]
  · rfl
theorem R_173 : PG.2.1 173 = (some .int) := rfl
theorem l_173 {s k p n m a : Nat} (hm : m ≤ 80) {h : Mm} (hk : h.kd s = some (.inr (.int, 1168))) : ∀ (d i : Nat) (S : Nat → Int32), i + d = m → S 9 = Int32.ofNat m → dB PG 173 108 [some (.ref 277), some (.ref s), some (.int (Int32.ofNat k)), some (.int (Int32.ofNat p)), some (.int (Int32.ofNat a)), some (.int (Int32.ofNat n)), some (.int (Int32.ofNat i))] [] (h.sw s S) = some (.inl (some (.int (Int32.ofNat n))), h.sw s (fl (mvStep k p n) d i S)) := by
  intro d
  induction d with
  | zero =>
    intro i S hi hS
    have e : Int32.ofNat m ≤ Int32.ofNat i := by rw [i32_le (by omega) (by omega)]; omega
    simp -implicitDefEqProofs only [D_173_108, k_173_108, D_173_179, k_173_179, R_173, v_iload, v_aload_n, g_bipush, v_iaload, inI_0, g_icmp_ge, g_iadd, g_iconst, g_icmp_ne, g_sipush, v_iload_n, g_icmp_eq, g_goto, g_ireturn, entL, getL, setL, kL_i, kL_r, isI_s, isR_s, isJ_s, gV_s, iV_i, cs0, cs1, cs2, cs3, cs4, dn_nil, kd_si, kd_sl, kd_sw, mr_si, mr_sl, mr_sw, ml_si, ml_sw, mi_sl, hk, in_9, ix_9, mi_sw, hS, if_pos e, retX_int]
    rfl
  | succ d ih =>
    intro i S hi hS
    have e : ¬ Int32.ofNat m ≤ Int32.ofNat i := by rw [i32_le (by omega) (by omega)]; omega
    have s1 : Int32.ofNat i + 1 = Int32.ofNat (i + 1) := i32_add (b := 1)
    have b_1 : inb (Int32.ofNat (48 + i)) 1168 = true := inb_nat (by omega) (by decide)
    have n_1 : (Int32.ofNat (48 + i)).toNatClampNeg = 48 + i := i32_nat (by omega)
    have b_2 : inb (Int32.ofNat (288 + i)) 1168 = true := inb_nat (by omega) (by decide)
    have n_2 : (Int32.ofNat (288 + i)).toNatClampNeg = 288 + i := i32_nat (by omega)
    have b_3 : inb (Int32.ofNat (128 + i)) 1168 = true := inb_nat (by omega) (by decide)
    have n_3 : (Int32.ofNat (128 + i)).toNatClampNeg = 128 + i := i32_nat (by omega)
    have z : fl (mvStep k p n) (d + 1) i S = fl (mvStep k p n) d (i + 1) (mvStep k p n i S) := rfl
    rw [D_173_108, z, ← ih (i + 1) (mvStep k p n i S) (by omega) (by rw [mvStep_9 (by omega), hS])]
    by_cases c1 : S (48 + i) = 4
    · by_cases c2 : S (288 + i) = Int32.ofNat k
      · by_cases c3 : S (128 + i) = Int32.ofNat p
        · have y : mvStep k p n i S = zu (zu S (48 + i) 5) (128 + i) (Int32.ofNat n) := if_pos ⟨c1, c2, c3⟩
          rw [y]
          simp -implicitDefEqProofs only [k_173_108, D_173_155, k_173_155, D_173_173, k_173_173, v_iload, v_aload_n, g_bipush, v_iaload, inI_0, g_icmp_ge, g_iadd, g_iconst, g_icmp_ne, g_sipush, v_iload_n, g_icmp_eq, g_goto, v_iastore, wrI_0, v_iinc, entL, getL, setL, kL_i, kL_r, isI_s, isR_s, isJ_s, gV_s, iV_i, cs0, cs1, cs2, cs3, cs4, dn_nil, kd_si, kd_sl, kd_sw, mr_si, mr_sl, mr_sw, ml_si, ml_sw, mi_sl, hk, in_9, ix_9, mi_sw, hS, if_neg e, la_48, la_288, la_128, b_1, n_1, b_2, n_2, b_3, n_3, if_pos c1, if_pos c2, if_pos c3, si_sw (a := s), sw_sw, s1]
        · have y : mvStep k p n i S = S := if_neg (fun q => c3 q.2.2)
          rw [y]
          simp -implicitDefEqProofs only [k_173_108, D_173_173, k_173_173, v_iload, v_aload_n, g_bipush, v_iaload, inI_0, g_icmp_ge, g_iadd, g_iconst, g_icmp_ne, g_sipush, v_iload_n, g_icmp_eq, g_goto, v_iinc, entL, getL, setL, kL_i, kL_r, isI_s, isR_s, isJ_s, gV_s, iV_i, cs0, cs1, cs2, cs3, cs4, dn_nil, kd_si, kd_sl, kd_sw, mr_si, mr_sl, mr_sw, ml_si, ml_sw, mi_sl, hk, in_9, ix_9, mi_sw, hS, if_neg e, la_48, la_288, la_128, b_1, n_1, b_2, n_2, b_3, n_3, if_pos c1, if_pos c2, if_neg c3, s1]
      · have y : mvStep k p n i S = S := if_neg (fun q => c2 q.2.1)
        rw [y]
        simp -implicitDefEqProofs only [k_173_108, D_173_173, k_173_173, v_iload, v_aload_n, g_bipush, v_iaload, inI_0, g_icmp_ge, g_iadd, g_iconst, g_icmp_ne, g_sipush, v_iload_n, g_icmp_eq, g_goto, v_iinc, entL, getL, setL, kL_i, kL_r, isI_s, isR_s, isJ_s, gV_s, iV_i, cs0, cs1, cs2, cs3, cs4, dn_nil, kd_si, kd_sl, kd_sw, mr_si, mr_sl, mr_sw, ml_si, ml_sw, mi_sl, hk, in_9, ix_9, mi_sw, hS, if_neg e, la_48, la_288, la_128, b_1, n_1, b_2, n_2, b_3, n_3, if_pos c1, if_neg c2, s1]
    · have y : mvStep k p n i S = S := if_neg (fun q => c1 q.1)
      rw [y]
      simp -implicitDefEqProofs only [k_173_108, D_173_173, k_173_173, v_iload, v_aload_n, g_bipush, v_iaload, inI_0, g_icmp_ge, g_iadd, g_iconst, g_icmp_ne, g_sipush, v_iload_n, g_icmp_eq, g_goto, v_iinc, entL, getL, setL, kL_i, kL_r, isI_s, isR_s, isJ_s, gV_s, iV_i, cs0, cs1, cs2, cs3, cs4, dn_nil, kd_si, kd_sl, kd_sw, mr_si, mr_sl, mr_sw, ml_si, ml_sw, mi_sl, hk, in_9, ix_9, mi_sw, hS, if_neg e, la_48, la_288, la_128, b_1, n_1, b_2, n_2, b_3, n_3, if_neg c1, s1]
def clA1 (S : Nat → Int32) (k p n : Nat) : Nat → Int32 := zu (zu S 8 (S 8 + 1)) (688 + n) (Int32.ofNat k)
def clA2 (S : Nat → Int32) (k p n : Nat) : Nat → Int32 := zu (clA1 S k p n) (768 + n) (clA1 S k p n (26 + 3 * k + p))
def clA3 (S : Nat → Int32) (k p n : Nat) : Nat → Int32 := zu (clA2 S k p n) (848 + n) (clA2 S k p n (26 + 3 * k + p) - clA2 S k p n (10 + k))
def clA4 (S : Nat → Int32) (k p n : Nat) : Nat → Int32 := zu (clA3 S k p n) (928 + n) (clA3 S k p n 0)
def clA5 (due : Int32) (S : Nat → Int32) (k p n : Nat) : Nat → Int32 := zu (zu (zu (clA4 S k p n) (1008 + n) (clA4 S k p n 0 + due)) (1088 + n) (-1)) (26 + 3 * k + p) 0
theorem clA5_9 {due : Int32} {S : Nat → Int32} {k p n : Nat} : clA5 due S k p n 9 = S 9 := by
  unfold clA5 clA4 clA3 clA2 clA1
  rw [zu_ne (by omega), zu_ne (by omega), zu_ne (by omega), zu_ne (by omega), zu_ne (by omega), zu_ne (by omega), zu_ne (by omega), zu_ne (by omega)]
def closeF (due : Int32) (S : Nat → Int32) (k p n m : Nat) : Nat → Int32 := fl (mvStep k p n) m 0 (clA5 due S k p n)
theorem m_173 {s k p n m : Nat} (hk4 : k < 4) (hp : p < 3) (hn : n < 80) (hm : m ≤ 80) {h : Mm} (H : MO h) (h7 : s ≠ 279) (hk : h.kd s = some (.inr (.int, 1168))) (h8 : h.mi s 8 = Int32.ofNat n) (h9 : h.mi s 9 = Int32.ofNat m) : dM PG 173 [.ref 277, .ref s, .int (Int32.ofNat k), .int (Int32.ofNat p)] h = some (.inl (some (.int (Int32.ofNat n))), h.sw s (closeF (h.mi 279 6) (h.mi s) k p n m)) := by
  rw [dM_of (Nat.le_of_ble_eq_true rfl)]
  have b_1 : inb (Int32.ofNat (688 + n)) 1168 = true := inb_nat (by omega) (by decide)
  have n_1 : (Int32.ofNat (688 + n)).toNatClampNeg = 688 + n := i32_nat (by omega)
  have b_2 : inb (Int32.ofNat (768 + n)) 1168 = true := inb_nat (by omega) (by decide)
  have n_2 : (Int32.ofNat (768 + n)).toNatClampNeg = 768 + n := i32_nat (by omega)
  have b_3 : inb (Int32.ofNat (848 + n)) 1168 = true := inb_nat (by omega) (by decide)
  have n_3 : (Int32.ofNat (848 + n)).toNatClampNeg = 848 + n := i32_nat (by omega)
  have b_4 : inb (Int32.ofNat (928 + n)) 1168 = true := inb_nat (by omega) (by decide)
  have n_4 : (Int32.ofNat (928 + n)).toNatClampNeg = 928 + n := i32_nat (by omega)
  have b_5 : inb (Int32.ofNat (1008 + n)) 1168 = true := inb_nat (by omega) (by decide)
  have n_5 : (Int32.ofNat (1008 + n)).toNatClampNeg = 1008 + n := i32_nat (by omega)
  have b_6 : inb (Int32.ofNat (1088 + n)) 1168 = true := inb_nat (by omega) (by decide)
  have n_6 : (Int32.ofNat (1088 + n)).toNatClampNeg = 1088 + n := i32_nat (by omega)
  have b_7 : inb (Int32.ofNat (26 + 3 * k + p)) 1168 = true := inb_nat (by omega) (by decide)
  have n_7 : (Int32.ofNat (26 + 3 * k + p)).toNatClampNeg = 26 + 3 * k + p := i32_nat (by omega)
  have b_8 : inb (Int32.ofNat (10 + k)) 1168 = true := inb_nat (by omega) (by decide)
  have n_8 : (Int32.ofNat (10 + k)).toNatClampNeg = 10 + k := i32_nat (by omega)
  have h72 : (279 : Nat) ≠ s := fun e => h7 e.symm
  have g := l_173 (s := s) (k := k) (p := p) (n := n) (a := 26 + 3 * k + p) hm hk m 0 (clA5 (h.mi 279 6) (h.mi s) k p n) (by omega) (by rw [clA5_9, h9])
  have z : Int32.ofNat 0 = 0 := rfl
  rw [z] at g
  unfold closeF
  rw [← g]
  simp -implicitDefEqProofs only [D_173_0, k_173_0, v_iload_n, v_callS2, aft_v, aft_n, g_istore, v_aload_n, g_bipush, v_iaload, inI_0, g_dup2, g_iconst, g_iadd, v_iastore, wrI_0, g_sipush, v_iload, g_isub, g_getfield, sv_a, rf_s, entL, getL, setL, kL_i, kL_r, isI_s, isR_s, isJ_s, gV_s, iV_i, cs0, cs1, cs2, cs3, cs4, dn_nil, kd_si, kd_sl, kd_sw, mr_si, mr_sl, mr_sw, ml_si, ml_sw, mi_sl, m_172, mk_277 H, mr_11 H, mk_279 H, hk, in_8, ix_8, in_0, ix_0, ip_6, ix_6, h8, la_688, la_768, la_848, la_928, la_1008, la_1088, la_10, b_1, n_1, b_2, n_2, b_3, n_3, b_4, n_4, b_5, n_5, b_6, n_6, b_7, n_7, b_8, n_8, si_sw (a := s), sw_sw, mi_sw, mi_swo h72]
  simp only [clA5, clA4, clA3, clA2, clA1, h8]
