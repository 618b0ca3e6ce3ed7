-- ===== the grader: the place for an item =====
def ssSkip (R : Nat → Nat → Int32) (k q : Nat) (lo hi : Int32) : Bool := decide (R 6 (k * 3 + q) < lo) || decide (hi < R 6 (k * 3 + q))
def ssStep (R : Nat → Nat → Int32) (k q : Nat) (lo hi : Int32) (a : Option Nat × Int32) : Option Nat × Int32 := if ssSkip R k q lo hi = true then a else if a.1 = none ∨ R 6 (k * 3 + q) < a.2 then (some q, R 6 (k * 3 + q)) else a
def ssGo (R : Nat → Nat → Int32) (k : Nat) (lo hi : Int32) (d q : Nat) (a : Option Nat × Int32) : Option Nat × Int32 := fl (fun q a => ssStep R k q lo hi a) d q a
theorem R_364 : PG.2.1 364 = (some .int) := rfl
theorem l_364 {b k n : Nat} (hk : k < 4) (hn : n ≤ 3) {lo hi : Int32} {h : Mm} (T : ST h b) {R : Nat → Nat → Int32} : ∀ (d q : Nat) (a : Option Nat × Int32) (tl : Lc), q + d = n → (∀ c, a.1 = some c → c < 3) → (tl = [] ∨ ∃ x : Int32, tl = [some (.int x)]) → dB PG 364 9 (some (.ref b) :: some (.int (Int32.ofNat k)) :: some (.int (Int32.ofNat n)) :: some (.int lo) :: some (.int hi) :: some (.int (oN a.1)) :: some (.int a.2) :: some (.int (Int32.ofNat q)) :: tl) [] (h.sb b R) = some (.inl (some (.int (oN (ssGo R k lo hi d q a).1))), h.sb b R) := by
  intro d
  induction d with
  | zero =>
    intro q a tl hq ha ht
    have e : Int32.ofNat n ≤ Int32.ofNat q := by rw [i32_le (by omega) (by omega)]; omega
    simp -implicitDefEqProofs only [D_364_9, k_364_9, D_364_68, k_364_68, R_364, v_iload, v_iload_n, g_icmp_ge, v_aload_n, g_getfield, sv_a, rf_s, g_iconst, g_imul, g_iadd, v_iaload, inI_0, g_istore, g_icmp_lt, g_icmp_gt, g_icmp_eq, g_ireturn, entL, getL, setL, kL_i, kL_r, isI_s, isR_s, isJ_s, gV_s, iV_i, cs0, cs1, cs2, cs3, cs4, dn_nil, kd_si, kd_sl, kd_sw, mr_si, mr_sl, mr_sw, ml_si, ml_sw, mi_sl, if_pos e, retX_int]
    rfl
  | succ d ih =>
    intro q a tl hq ha ht
    have e : ¬ Int32.ofNat n ≤ Int32.ofNat q := by rw [i32_le (by omega) (by omega)]; omega
    have s1 : Int32.ofNat q + 1 = Int32.ofNat (q + 1) := i32_add (b := 1)
    have b_2 : inb (Int32.ofNat (k * 3 + q)) 12 = true := inb_nat (by omega) (by decide)
    have n_2 : (Int32.ofNat (k * 3 + q)).toNatClampNeg = k * 3 + q := i32_nat (by omega)
    have z : ssGo R k lo hi (d + 1) q a = ssGo R k lo hi d (q + 1) (ssStep R k q lo hi a) := rfl
    have hs : ∀ c, (ssStep R k q lo hi a).1 = some c → c < 3 := by
      intro c ec
      unfold ssStep at ec
      split at ec
      · exact ha c ec
      · split at ec
        · obtain rfl := Option.some.inj ec; omega
        · exact ha c ec
    rw [z, ← ih (q + 1) (ssStep R k q lo hi a) [some (.int (R 6 (k * 3 + q)))] (by omega) hs (Or.inr ⟨_, rfl⟩), D_364_9]
    by_cases c1 : R 6 (k * 3 + q) < lo
    · have y : ssStep R k q lo hi a = a := by simp [ssStep, ssSkip, c1]
      rw [y]
      rcases ht with rfl | ⟨x, rfl⟩
      · simp -implicitDefEqProofs only [k_364_9, D_364_62, k_364_62, v_iload, v_iload_n, g_icmp_ge, v_aload_n, g_getfield, sv_a, rf_s, g_iconst, g_imul, g_iadd, v_iaload, inI_0, g_istore, g_icmp_lt, g_icmp_gt, g_icmp_eq, v_iinc, g_goto, entL, getL, setL, kL_i, kL_r, isI_s, isR_s, isJ_s, gV_s, iV_i, cs0, cs1, cs2, cs3, cs4, dn_nil, kd_si, kd_sl, kd_sw, mr_si, mr_sl, mr_sw, ml_si, ml_sw, mi_sl, kd_sb, mr_sb, bm_6, st_k T, st_r11 T, st_k6 T, if_neg e, ml_3, i32_add, b_2, n_2, if_pos c1, s1]
      · simp -implicitDefEqProofs only [k_364_9, D_364_62, k_364_62, v_iload, v_iload_n, g_icmp_ge, v_aload_n, g_getfield, sv_a, rf_s, g_iconst, g_imul, g_iadd, v_iaload, inI_0, g_istore, g_icmp_lt, g_icmp_gt, g_icmp_eq, v_iinc, g_goto, entL, getL, setL, kL_i, kL_r, isI_s, isR_s, isJ_s, gV_s, iV_i, cs0, cs1, cs2, cs3, cs4, dn_nil, kd_si, kd_sl, kd_sw, mr_si, mr_sl, mr_sw, ml_si, ml_sw, mi_sl, kd_sb, mr_sb, bm_6, st_k T, st_r11 T, st_k6 T, if_neg e, ml_3, i32_add, b_2, n_2, if_pos c1, s1]
    · by_cases c2 : hi < R 6 (k * 3 + q)
      · have y : ssStep R k q lo hi a = a := by simp [ssStep, ssSkip, c2]
        rw [y]
        rcases ht with rfl | ⟨x, rfl⟩
        · simp -implicitDefEqProofs only [k_364_9, D_364_62, k_364_62, v_iload, v_iload_n, g_icmp_ge, v_aload_n, g_getfield, sv_a, rf_s, g_iconst, g_imul, g_iadd, v_iaload, inI_0, g_istore, g_icmp_lt, g_icmp_gt, g_icmp_eq, v_iinc, g_goto, entL, getL, setL, kL_i, kL_r, isI_s, isR_s, isJ_s, gV_s, iV_i, cs0, cs1, cs2, cs3, cs4, dn_nil, kd_si, kd_sl, kd_sw, mr_si, mr_sl, mr_sw, ml_si, ml_sw, mi_sl, kd_sb, mr_sb, bm_6, st_k T, st_r11 T, st_k6 T, if_neg e, ml_3, i32_add, b_2, n_2, if_neg c1, if_pos c2, s1]
        · simp -implicitDefEqProofs only [k_364_9, D_364_62, k_364_62, v_iload, v_iload_n, g_icmp_ge, v_aload_n, g_getfield, sv_a, rf_s, g_iconst, g_imul, g_iadd, v_iaload, inI_0, g_istore, g_icmp_lt, g_icmp_gt, g_icmp_eq, v_iinc, g_goto, entL, getL, setL, kL_i, kL_r, isI_s, isR_s, isJ_s, gV_s, iV_i, cs0, cs1, cs2, cs3, cs4, dn_nil, kd_si, kd_sl, kd_sw, mr_si, mr_sl, mr_sw, ml_si, ml_sw, mi_sl, kd_sb, mr_sb, bm_6, st_k T, st_r11 T, st_k6 T, if_neg e, ml_3, i32_add, b_2, n_2, if_neg c1, if_pos c2, s1]
      · obtain ⟨a1, a2⟩ := a
        have eq : oN (some q) = Int32.ofNat q := rfl
        cases a1 with
        | none =>
          have en0 : oN none = -1 := rfl
          have y : ssStep R k q lo hi (none, a2) = (some q, R 6 (k * 3 + q)) := by simp [ssStep, ssSkip, c1, c2]
          rw [y]
          rcases ht with rfl | ⟨x, rfl⟩
          · simp -implicitDefEqProofs only [k_364_9, D_364_54, k_364_54, D_364_62, k_364_62, v_iload, v_iload_n, g_icmp_ge, v_aload_n, g_getfield, sv_a, rf_s, g_iconst, g_imul, g_iadd, v_iaload, inI_0, g_istore, g_icmp_lt, g_icmp_gt, g_icmp_eq, v_iinc, g_goto, entL, getL, setL, kL_i, kL_r, isI_s, isR_s, isJ_s, gV_s, iV_i, cs0, cs1, cs2, cs3, cs4, dn_nil, kd_si, kd_sl, kd_sw, mr_si, mr_sl, mr_sw, ml_si, ml_sw, mi_sl, kd_sb, mr_sb, bm_6, st_k T, st_r11 T, st_k6 T, if_neg e, ml_3, i32_add, b_2, n_2, if_neg c1, if_neg c2, en0, eq, if_true, s1]
          · simp -implicitDefEqProofs only [k_364_9, D_364_54, k_364_54, D_364_62, k_364_62, v_iload, v_iload_n, g_icmp_ge, v_aload_n, g_getfield, sv_a, rf_s, g_iconst, g_imul, g_iadd, v_iaload, inI_0, g_istore, g_icmp_lt, g_icmp_gt, g_icmp_eq, v_iinc, g_goto, entL, getL, setL, kL_i, kL_r, isI_s, isR_s, isJ_s, gV_s, iV_i, cs0, cs1, cs2, cs3, cs4, dn_nil, kd_si, kd_sl, kd_sw, mr_si, mr_sl, mr_sw, ml_si, ml_sw, mi_sl, kd_sb, mr_sb, bm_6, st_k T, st_r11 T, st_k6 T, if_neg e, ml_3, i32_add, b_2, n_2, if_neg c1, if_neg c2, en0, eq, if_true, s1]
        | some c =>
          have hc := ha c rfl
          have en : oN (some c) = Int32.ofNat c := rfl
          have en2 : ¬ Int32.ofNat c = -1 := oN_s (by omega)
          by_cases g : R 6 (k * 3 + q) < a2
          · have g2 : ¬ a2 ≤ R 6 (k * 3 + q) := Int32.not_le.mpr g
            have y : ssStep R k q lo hi (some c, a2) = (some q, R 6 (k * 3 + q)) := by simp [ssStep, ssSkip, c1, c2, g]
            rw [y]
            rcases ht with rfl | ⟨x, rfl⟩
            · simp -implicitDefEqProofs only [k_364_9, D_364_54, k_364_54, D_364_62, k_364_62, v_iload, v_iload_n, g_icmp_ge, v_aload_n, g_getfield, sv_a, rf_s, g_iconst, g_imul, g_iadd, v_iaload, inI_0, g_istore, g_icmp_lt, g_icmp_gt, g_icmp_eq, v_iinc, g_goto, entL, getL, setL, kL_i, kL_r, isI_s, isR_s, isJ_s, gV_s, iV_i, cs0, cs1, cs2, cs3, cs4, dn_nil, kd_si, kd_sl, kd_sw, mr_si, mr_sl, mr_sw, ml_si, ml_sw, mi_sl, kd_sb, mr_sb, bm_6, st_k T, st_r11 T, st_k6 T, if_neg e, ml_3, i32_add, b_2, n_2, if_neg c1, if_neg c2, en, eq, if_neg en2, if_neg g2, s1]
            · simp -implicitDefEqProofs only [k_364_9, D_364_54, k_364_54, D_364_62, k_364_62, v_iload, v_iload_n, g_icmp_ge, v_aload_n, g_getfield, sv_a, rf_s, g_iconst, g_imul, g_iadd, v_iaload, inI_0, g_istore, g_icmp_lt, g_icmp_gt, g_icmp_eq, v_iinc, g_goto, entL, getL, setL, kL_i, kL_r, isI_s, isR_s, isJ_s, gV_s, iV_i, cs0, cs1, cs2, cs3, cs4, dn_nil, kd_si, kd_sl, kd_sw, mr_si, mr_sl, mr_sw, ml_si, ml_sw, mi_sl, kd_sb, mr_sb, bm_6, st_k T, st_r11 T, st_k6 T, if_neg e, ml_3, i32_add, b_2, n_2, if_neg c1, if_neg c2, en, eq, if_neg en2, if_neg g2, s1]
          · have g2 : a2 ≤ R 6 (k * 3 + q) := Int32.not_lt.mp g
            have y : ssStep R k q lo hi (some c, a2) = (some c, a2) := by simp [ssStep, ssSkip, c1, c2, g]
            rw [y]
            rcases ht with rfl | ⟨x, rfl⟩
            · simp -implicitDefEqProofs only [k_364_9, D_364_54, k_364_54, D_364_62, k_364_62, v_iload, v_iload_n, g_icmp_ge, v_aload_n, g_getfield, sv_a, rf_s, g_iconst, g_imul, g_iadd, v_iaload, inI_0, g_istore, g_icmp_lt, g_icmp_gt, g_icmp_eq, v_iinc, g_goto, entL, getL, setL, kL_i, kL_r, isI_s, isR_s, isJ_s, gV_s, iV_i, cs0, cs1, cs2, cs3, cs4, dn_nil, kd_si, kd_sl, kd_sw, mr_si, mr_sl, mr_sw, ml_si, ml_sw, mi_sl, kd_sb, mr_sb, bm_6, st_k T, st_r11 T, st_k6 T, if_neg e, ml_3, i32_add, b_2, n_2, if_neg c1, if_neg c2, en, eq, if_neg en2, if_pos g2, s1]
            · simp -implicitDefEqProofs only [k_364_9, D_364_54, k_364_54, D_364_62, k_364_62, v_iload, v_iload_n, g_icmp_ge, v_aload_n, g_getfield, sv_a, rf_s, g_iconst, g_imul, g_iadd, v_iaload, inI_0, g_istore, g_icmp_lt, g_icmp_gt, g_icmp_eq, v_iinc, g_goto, entL, getL, setL, kL_i, kL_r, isI_s, isR_s, isJ_s, gV_s, iV_i, cs0, cs1, cs2, cs3, cs4, dn_nil, kd_si, kd_sl, kd_sw, mr_si, mr_sl, mr_sw, ml_si, ml_sw, mi_sl, kd_sb, mr_sb, bm_6, st_k T, st_r11 T, st_k6 T, if_neg e, ml_3, i32_add, b_2, n_2, if_neg c1, if_neg c2, en, eq, if_neg en2, if_pos g2, s1]
theorem m_364 {b k n : Nat} (hk : k < 4) (hn : n ≤ 3) {lo hi : Int32} {h : Mm} (T : ST h b) {R : Nat → Nat → Int32} : dM PG 364 [.ref b, .int (Int32.ofNat k), .int (Int32.ofNat n), .int lo, .int hi] (h.sb b R) = some (.inl (some (.int (oN (ssGo R k lo hi n 0 (none, 0)).1))), h.sb b R) := by
  rw [dM_of (Nat.le_of_ble_eq_true rfl)]
  simp -implicitDefEqProofs only [D_364_0, k_364_0, g_iconst, g_istore, entL, getL, setL, kL_i, kL_r, isI_s, isR_s, isJ_s, gV_s, iV_i, cs0, cs1, cs2, cs3, cs4, dn_nil, kd_si, kd_sl, kd_sw, mr_si, mr_sl, mr_sw, ml_si, ml_sw, mi_sl]
  exact l_364 hk hn T n 0 (none, 0) [] (by omega) (fun c e => by cases e) (Or.inl rfl)
