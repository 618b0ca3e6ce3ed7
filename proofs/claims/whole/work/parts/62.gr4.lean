-- ===== the grader: a place by the rule =====
def prStep (R : Nat → Nat → Int32) (k q : Nat) (be : Int32) (a : Option Nat × Int32) : Option Nat × Int32 := if R 6 (k * 3 + q) < be then (if a.1 = none ∨ chB (R 0 1) (R 6 (k * 3 + q)) a.2 = true then (some q, R 6 (k * 3 + q)) else a) else a
def prGo (R : Nat → Nat → Int32) (k : Nat) (be : Int32) (d q : Nat) (a : Option Nat × Int32) : Option Nat × Int32 := fl (fun q a => prStep R k q be a) d q a
theorem R_365 : PG.2.1 365 = (some .int) := rfl
theorem l_365 {b k n : Nat} (hk : k < 4) (hn : n ≤ 3) {be : Int32} {h : Mm} (T : ST h b) {R : Nat → Nat → Int32} : ∀ (d q : Nat) (a : Option Nat × Int32) (tl : Lc), q + d = n → (∀ c, a.1 = some c → c < 3) → (tl = [] ∨ ∃ x : Int32, tl = [some (.int x)]) → dB PG 365 9 (some (.ref b) :: some (.int (Int32.ofNat k)) :: some (.int (Int32.ofNat n)) :: some (.int be) :: some (.int (oN a.1)) :: some (.int a.2) :: some (.int (Int32.ofNat q)) :: tl) [] (h.sb b R) = some (.inl (some (.int (oN (prGo R k be d q a).1))), h.sb b R) := by
  intro d
  induction d with
  | zero =>
    intro q a tl hq ha ht
    have e : Int32.ofNat n ≤ Int32.ofNat q := by rw [i32_le (by omega) (by omega)]; omega
    simp -implicitDefEqProofs only [D_365_9, k_365_9, D_365_65, k_365_65, R_365, v_iload, v_iload_n, g_icmp_ge, v_aload_n, g_getfield, sv_a, rf_s, g_iconst, g_imul, g_iadd, v_iaload, inI_0, g_istore, g_icmp_eq, v_callV3, aft_v, aft_n, g_if_eq, g_ireturn, entL, getL, setL, kL_i, kL_r, isI_s, isR_s, isJ_s, gV_s, iV_i, cs0, cs1, cs2, cs3, cs4, dn_nil, kd_si, kd_sl, kd_sw, mr_si, mr_sl, mr_sw, ml_si, ml_sw, mi_sl, if_pos e, retX_int]
    rfl
  | succ d ih =>
    intro q a tl hq ha ht
    have e : ¬ Int32.ofNat n ≤ Int32.ofNat q := by rw [i32_le (by omega) (by omega)]; omega
    have s1 : Int32.ofNat q + 1 = Int32.ofNat (q + 1) := i32_add (b := 1)
    have b_2 : inb (Int32.ofNat (k * 3 + q)) 12 = true := inb_nat (by omega) (by decide)
    have n_2 : (Int32.ofNat (k * 3 + q)).toNatClampNeg = k * 3 + q := i32_nat (by omega)
    have z : prGo R k be (d + 1) q a = prGo R k be d (q + 1) (prStep R k q be a) := rfl
    have hs : ∀ c, (prStep R k q be a).1 = some c → c < 3 := by
      intro c ec
      unfold prStep at ec
      split at ec
      · split at ec
        · obtain rfl := Option.some.inj ec; omega
        · exact ha c ec
      · exact ha c ec
    rw [z, ← ih (q + 1) (prStep R k q be a) [some (.int (R 6 (k * 3 + q)))] (by omega) hs (Or.inr ⟨_, rfl⟩), D_365_9]
    by_cases c1 : R 6 (k * 3 + q) < be
    · have c2 : ¬ be ≤ R 6 (k * 3 + q) := Int32.not_le.mpr c1
      obtain ⟨a1, a2⟩ := a
      have eq : oN (some q) = Int32.ofNat q := rfl
      cases a1 with
      | none =>
        have en0 : oN none = -1 := rfl
        have y : prStep R k q be (none, a2) = (some q, R 6 (k * 3 + q)) := by simp [prStep, c1]
        rw [y]
        rcases ht with rfl | ⟨x, rfl⟩
        · simp -implicitDefEqProofs only [k_365_9, D_365_51, k_365_51, D_365_59, k_365_59, v_iload, v_iload_n, g_icmp_ge, v_aload_n, g_getfield, sv_a, rf_s, g_iconst, g_imul, g_iadd, v_iaload, inI_0, g_istore, g_icmp_eq, v_callV3, aft_v, aft_n, g_if_eq, v_iinc, g_goto, entL, getL, setL, kL_i, kL_r, isI_s, isR_s, isJ_s, gV_s, iV_i, cs0, cs1, cs2, cs3, cs4, dn_nil, kd_si, kd_sl, kd_sw, mr_si, mr_sl, mr_sw, ml_si, ml_sw, mi_sl, kd_sb, mr_sb, bm_6, st_k T, st_r11 T, st_k6 T, if_neg e, ml_3, i32_add, b_2, n_2, if_neg c2, en0, eq, if_true, s1]
        · simp -implicitDefEqProofs only [k_365_9, D_365_51, k_365_51, D_365_59, k_365_59, v_iload, v_iload_n, g_icmp_ge, v_aload_n, g_getfield, sv_a, rf_s, g_iconst, g_imul, g_iadd, v_iaload, inI_0, g_istore, g_icmp_eq, v_callV3, aft_v, aft_n, g_if_eq, v_iinc, g_goto, entL, getL, setL, kL_i, kL_r, isI_s, isR_s, isJ_s, gV_s, iV_i, cs0, cs1, cs2, cs3, cs4, dn_nil, kd_si, kd_sl, kd_sw, mr_si, mr_sl, mr_sw, ml_si, ml_sw, mi_sl, kd_sb, mr_sb, bm_6, st_k T, st_r11 T, st_k6 T, if_neg e, ml_3, i32_add, b_2, n_2, if_neg c2, en0, eq, if_true, s1]
      | some c =>
        have hc := ha c rfl
        have en : oN (some c) = Int32.ofNat c := rfl
        have en2 : ¬ Int32.ofNat c = -1 := oN_s (by omega)
        have gm := m_375 (x := R 6 (k * 3 + q)) (z := a2) T (R := R)
        cases g : chB (R 0 1) (R 6 (k * 3 + q)) a2 with
        | true =>
          have y : prStep R k q be (some c, a2) = (some q, R 6 (k * 3 + q)) := by simp [prStep, c1, g]
          rw [y]
          rcases ht with rfl | ⟨x, rfl⟩
          · simp -implicitDefEqProofs only [k_365_9, D_365_51, k_365_51, D_365_59, k_365_59, v_iload, v_iload_n, g_icmp_ge, v_aload_n, g_getfield, sv_a, rf_s, g_iconst, g_imul, g_iadd, v_iaload, inI_0, g_istore, g_icmp_eq, v_callV3, aft_v, aft_n, g_if_eq, v_iinc, g_goto, entL, getL, setL, kL_i, kL_r, isI_s, isR_s, isJ_s, gV_s, iV_i, cs0, cs1, cs2, cs3, cs4, dn_nil, kd_si, kd_sl, kd_sw, mr_si, mr_sl, mr_sw, ml_si, ml_sw, mi_sl, kd_sb, mr_sb, bm_6, st_k T, st_r11 T, st_k6 T, if_neg e, ml_3, i32_add, b_2, n_2, if_neg c2, en, eq, if_neg en2, gm, g, b2i_1, if_neg z_1, s1]
          · simp -implicitDefEqProofs only [k_365_9, D_365_51, k_365_51, D_365_59, k_365_59, v_iload, v_iload_n, g_icmp_ge, v_aload_n, g_getfield, sv_a, rf_s, g_iconst, g_imul, g_iadd, v_iaload, inI_0, g_istore, g_icmp_eq, v_callV3, aft_v, aft_n, g_if_eq, v_iinc, g_goto, entL, getL, setL, kL_i, kL_r, isI_s, isR_s, isJ_s, gV_s, iV_i, cs0, cs1, cs2, cs3, cs4, dn_nil, kd_si, kd_sl, kd_sw, mr_si, mr_sl, mr_sw, ml_si, ml_sw, mi_sl, kd_sb, mr_sb, bm_6, st_k T, st_r11 T, st_k6 T, if_neg e, ml_3, i32_add, b_2, n_2, if_neg c2, en, eq, if_neg en2, gm, g, b2i_1, if_neg z_1, s1]
        | false =>
          have y : prStep R k q be (some c, a2) = (some c, a2) := by simp [prStep, c1, g]
          rw [y]
          rcases ht with rfl | ⟨x, rfl⟩
          · simp -implicitDefEqProofs only [k_365_9, D_365_51, k_365_51, D_365_59, k_365_59, v_iload, v_iload_n, g_icmp_ge, v_aload_n, g_getfield, sv_a, rf_s, g_iconst, g_imul, g_iadd, v_iaload, inI_0, g_istore, g_icmp_eq, v_callV3, aft_v, aft_n, g_if_eq, v_iinc, g_goto, entL, getL, setL, kL_i, kL_r, isI_s, isR_s, isJ_s, gV_s, iV_i, cs0, cs1, cs2, cs3, cs4, dn_nil, kd_si, kd_sl, kd_sw, mr_si, mr_sl, mr_sw, ml_si, ml_sw, mi_sl, kd_sb, mr_sb, bm_6, st_k T, st_r11 T, st_k6 T, if_neg e, ml_3, i32_add, b_2, n_2, if_neg c2, en, eq, if_neg en2, gm, g, b2i_0, if_true, s1]
          · simp -implicitDefEqProofs only [k_365_9, D_365_51, k_365_51, D_365_59, k_365_59, v_iload, v_iload_n, g_icmp_ge, v_aload_n, g_getfield, sv_a, rf_s, g_iconst, g_imul, g_iadd, v_iaload, inI_0, g_istore, g_icmp_eq, v_callV3, aft_v, aft_n, g_if_eq, v_iinc, g_goto, entL, getL, setL, kL_i, kL_r, isI_s, isR_s, isJ_s, gV_s, iV_i, cs0, cs1, cs2, cs3, cs4, dn_nil, kd_si, kd_sl, kd_sw, mr_si, mr_sl, mr_sw, ml_si, ml_sw, mi_sl, kd_sb, mr_sb, bm_6, st_k T, st_r11 T, st_k6 T, if_neg e, ml_3, i32_add, b_2, n_2, if_neg c2, en, eq, if_neg en2, gm, g, b2i_0, if_true, s1]
    · have c2 : be ≤ R 6 (k * 3 + q) := Int32.not_lt.mp c1
      have y : prStep R k q be a = a := if_neg c1
      rw [y]
      rcases ht with rfl | ⟨x, rfl⟩
      · simp -implicitDefEqProofs only [k_365_9, D_365_59, k_365_59, v_iload, v_iload_n, g_icmp_ge, v_aload_n, g_getfield, sv_a, rf_s, g_iconst, g_imul, g_iadd, v_iaload, inI_0, g_istore, g_icmp_eq, v_callV3, aft_v, aft_n, g_if_eq, v_iinc, g_goto, entL, getL, setL, kL_i, kL_r, isI_s, isR_s, isJ_s, gV_s, iV_i, cs0, cs1, cs2, cs3, cs4, dn_nil, kd_si, kd_sl, kd_sw, mr_si, mr_sl, mr_sw, ml_si, ml_sw, mi_sl, kd_sb, mr_sb, bm_6, st_k T, st_r11 T, st_k6 T, if_neg e, ml_3, i32_add, b_2, n_2, if_pos c2, s1]
      · simp -implicitDefEqProofs only [k_365_9, D_365_59, k_365_59, v_iload, v_iload_n, g_icmp_ge, v_aload_n, g_getfield, sv_a, rf_s, g_iconst, g_imul, g_iadd, v_iaload, inI_0, g_istore, g_icmp_eq, v_callV3, aft_v, aft_n, g_if_eq, v_iinc, g_goto, entL, getL, setL, kL_i, kL_r, isI_s, isR_s, isJ_s, gV_s, iV_i, cs0, cs1, cs2, cs3, cs4, dn_nil, kd_si, kd_sl, kd_sw, mr_si, mr_sl, mr_sw, ml_si, ml_sw, mi_sl, kd_sb, mr_sb, bm_6, st_k T, st_r11 T, st_k6 T, if_neg e, ml_3, i32_add, b_2, n_2, if_pos c2, s1]
theorem m_365 {b k n : Nat} (hk : k < 4) (hn : n ≤ 3) {be : Int32} {h : Mm} (T : ST h b) {R : Nat → Nat → Int32} : dM PG 365 [.ref b, .int (Int32.ofNat k), .int (Int32.ofNat n), .int be] (h.sb b R) = some (.inl (some (.int (oN (prGo R k be n 0 (none, 0)).1))), h.sb b R) := by
  rw [dM_of (Nat.le_of_ble_eq_true rfl)]
  simp -implicitDefEqProofs only [D_365_0, k_365_0, g_iconst, g_istore, entL, getL, setL, kL_i, kL_r, isI_s, isR_s, isJ_s, gV_s, iV_i, cs0, cs1, cs2, cs3, cs4, dn_nil, kd_si, kd_sl, kd_sw, mr_si, mr_sl, mr_sw, ml_si, ml_sw, mi_sl]
  exact l_365 hk hn T n 0 (none, 0) [] (by omega) (fun c e => by cases e) (Or.inl rfl)
