-- ===== numbers in tens =====
/-- v has k digits -/
def dgK (v k : Nat) : Prop := 1 ≤ k ∧ v < 10 ^ k ∧ (k = 1 ∨ 10 ^ (k - 1) ≤ v)
theorem dgK_ex (v : Nat) : ∃ k, dgK v k := by
  induction v using Nat.strongRecOn with
  | ind v ih =>
    by_cases c : v < 10
    · exact ⟨1, by omega, by omega, Or.inl rfl⟩
    · obtain ⟨k, h1, h2, h3⟩ := ih (v / 10) (by omega)
      refine ⟨k + 1, by omega, ?_, Or.inr ?_⟩
      · rw [Nat.pow_succ]; omega
      · rw [Nat.add_sub_cancel]
        rcases h3 with h3 | h3
        · subst h3; omega
        · obtain ⟨j, rfl⟩ : ∃ j, k = j + 1 := ⟨k - 1, by omega⟩
          rw [Nat.add_sub_cancel] at h3
          rw [Nat.pow_succ]; omega
theorem dgK_1 {v k : Nat} (h : dgK v k) (hv : v < 10) : k = 1 := by
  obtain ⟨h1, h2, h3⟩ := h
  by_cases c : k = 1
  · exact c
  · exfalso
    have : 10 ^ 1 ≤ 10 ^ (k - 1) := Nat.pow_le_pow_right (by decide) (by omega)
    rcases h3 with h3 | h3
    · exact c h3
    · omega
theorem dgK_2 {v k : Nat} (h : dgK v k) (hv : 10 ≤ v) : 2 ≤ k ∧ dgK (v / 10) (k - 1) := by
  obtain ⟨h1, h2, h3⟩ := h
  have k2 : 2 ≤ k := by
    by_cases c : k = 1
    · subst c; omega
    · omega
  obtain ⟨j, rfl⟩ : ∃ j, k = j + 2 := ⟨k - 2, by omega⟩
  refine ⟨k2, by omega, ?_, ?_⟩
  · show v / 10 < 10 ^ (j + 1)
    rw [show j + 2 = (j + 1) + 1 from rfl, Nat.pow_succ] at h2
    omega
  · rcases h3 with h3 | h3
    · omega
    · rw [show j + 2 - 1 = j + 1 by omega, Nat.pow_succ] at h3
      by_cases c : j = 0
      · left; omega
      · right
        show 10 ^ (j + 1 - 1) ≤ v / 10
        rw [Nat.add_sub_cancel]
        omega
theorem dgK_u {v a b : Nat} (ha : dgK v a) (hb : dgK v b) : a = b := by
  induction v using Nat.strongRecOn generalizing a b with
  | ind v ih =>
    by_cases c : v < 10
    · rw [dgK_1 ha c, dgK_1 hb c]
    · obtain ⟨a1, a2⟩ := dgK_2 ha (by omega)
      obtain ⟨b1, b2⟩ := dgK_2 hb (by omega)
      have := ih (v / 10) (by omega) a2 b2
      omega
theorem dgK_10 {v k : Nat} (h : dgK v k) (hv : v < 1000000000) : k ≤ 9 := by
  obtain ⟨h1, h2, h3⟩ := h
  rcases h3 with h3 | h3
  · omega
  · by_cases c : k ≤ 9
    · exact c
    · exfalso
      have : 10 ^ 9 ≤ 10 ^ (k - 1) := Nat.pow_le_pow_right (by decide) (by omega)
      omega
theorem neg_toInt {w : Nat} (hw : w < 2147483648) : (-(Int32.ofNat w)).toInt = -(w : Int) := by
  rw [Int32.toInt_neg, i32_toInt hw]
  exact Int.bmod_eq_of_le (by omega) (by omega)
theorem neg_le_ {a b : Nat} (ha : a < 2147483648) (hb : b < 2147483648) : -(Int32.ofNat a) ≤ -(Int32.ofNat b) ↔ b ≤ a := by
  rw [Int32.le_iff_toInt_le, neg_toInt ha, neg_toInt hb]; omega
theorem neg_lt_ {a b : Nat} (ha : a < 2147483648) (hb : b < 2147483648) : -(Int32.ofNat a) < -(Int32.ofNat b) ↔ b < a := by
  rw [Int32.lt_iff_toInt_lt, neg_toInt ha, neg_toInt hb]; omega
theorem ndiv {w : Nat} (hw : w < 2147483648) : -(Int32.ofNat w) / 100 = -(Int32.ofNat (w / 100)) := by
  apply Int32.toInt_inj.mp
  rw [Int32.toInt_div_of_ne_right _ _ (by decide), neg_toInt hw, neg_toInt (by omega), show (100 : Int32).toInt = 100 from by decide, Int.neg_tdiv]
  have : (w : Int).tdiv 100 = ((w / 100 : Nat) : Int) := by
    rw [Int.tdiv_eq_ediv_of_nonneg (by omega)]
    omega
  rw [this]
theorem nrem {w : Nat} (hw : w < 2147483648) : -(Int32.ofNat (w / 100)) * 100 - -(Int32.ofNat w) = Int32.ofNat (w % 100) := by
  rw [Int32.sub_neg, Int32.neg_mul]
  have e : Int32.ofNat (w / 100) * 100 = Int32.ofNat (w / 100 * 100) := i32_mul (b := 100)
  rw [e, Int32.add_comm, ← Int32.sub_eq_add_neg, i32_sub (by omega)]
  congr 1; omega
theorem R_341 : PG.2.1 341 = (some .int) := rfl
theorem m_341 {v n : Nat} (hn : dgK v n) (hv : v < 1000000000) {h : Mm} : dM PG 341 [.int (Int32.ofNat v)] h = some (.inl (some (.int (Int32.ofNat n))), h) := by
  rw [dM_of (Nat.le_of_ble_eq_true rfl)]
  have e0 : ¬ Int32.ofNat v < 0 := i32_0n (by omega)
  have hn9 := dgK_10 hn hv
  simp -implicitDefEqProofs only [D_341_0, k_341_0, D_341_11, k_341_11, g_iconst, g_istore_n, v_iload_n, g_if_lt, g_ineg, g_bipush, entL, getL, setL, kL_i, kL_r, isI_s, isR_s, isJ_s, gV_s, iV_i, cs0, cs1, cs2, cs3, cs4, dn_nil, kd_si, kd_sl, kd_sw, mr_si, mr_sl, mr_sw, ml_si, ml_sw, mi_sl, ↓if_neg e0, if_neg e0]
  have main : ∀ d i : Nat, i + d = n → 1 ≤ i → (i = 1 ∨ 10 ^ (i - 1) ≤ v) → dB PG 341 16 [some (.int (-(Int32.ofNat v))), some (.int 0), some (.int (-(Int32.ofNat (10 ^ i)))), some (.int (Int32.ofNat i))] [] h = some (.inl (some (.int (Int32.ofNat n))), h) := by
    intro d
    induction d with
    | zero =>
      intro i hi h1 h2
      obtain rfl : i = n := by omega
      have p9 : 10 ^ i ≤ 10 ^ 9 := Nat.pow_le_pow_right (by decide) hn9
      have c1 : ¬ (10 : Int32) ≤ Int32.ofNat i := by
        show ¬ Int32.ofNat 10 ≤ Int32.ofNat i
        rw [i32_le (by omega) (by omega)]; omega
      have c2 : ¬ -(Int32.ofNat v) ≤ -(Int32.ofNat (10 ^ i)) := by
        rw [neg_le_ (by omega) (by omega)]
        have := hn.2.1; omega
      rw [D_341_16]
      simp -implicitDefEqProofs only [D_341_0, k_341_0, D_341_11, k_341_11, k_341_16, D_341_31, k_341_31, D_341_42, k_341_42, R_341, g_iconst, g_istore_n, v_iload_n, g_if_lt, g_ineg, g_bipush, g_icmp_ge, g_icmp_le, g_iadd, g_ireturn, g_imul, v_iinc, g_goto, entL, getL, setL, kL_i, kL_r, isI_s, isR_s, isJ_s, gV_s, iV_i, cs0, cs1, cs2, cs3, cs4, dn_nil, kd_si, kd_sl, kd_sw, mr_si, mr_sl, mr_sw, ml_si, ml_sw, mi_sl, ↓if_neg c1, if_neg c1, ↓if_neg c2, if_neg c2, Int32.add_zero, retX_int]
    | succ d ih =>
      intro i hi h1 h2
      have p9 : 10 ^ (i + 1) ≤ 10 ^ 9 := Nat.pow_le_pow_right (by decide) (by omega)
      have p8 : 10 ^ i ≤ 10 ^ (i + 1) := Nat.pow_le_pow_right (by decide) (by omega)
      have hge : 10 ^ i ≤ v := by
        rcases hn.2.2 with q | q
        · omega
        · exact Nat.le_trans (Nat.pow_le_pow_right (by decide) (by omega)) q
      have c1 : ¬ (10 : Int32) ≤ Int32.ofNat i := by
        show ¬ Int32.ofNat 10 ≤ Int32.ofNat i
        rw [i32_le (by omega) (by omega)]; omega
      have c2 : -(Int32.ofNat v) ≤ -(Int32.ofNat (10 ^ i)) := by
        rw [neg_le_ (by omega) (by omega)]; exact hge
      have s1 : Int32.ofNat (i) + 1 = Int32.ofNat (i + 1) := i32_add (b := 1)
      have m1 : (10 : Int32) * -(Int32.ofNat (10 ^ i)) = -(Int32.ofNat (10 ^ (i + 1))) := by
        rw [Int32.mul_neg, Nat.pow_succ, Nat.mul_comm]
        congr 1
        exact i32_mul (a := 10)
      rw [← ih (i + 1) (by omega) (by omega) (Or.inr hge), D_341_16]
      simp -implicitDefEqProofs only [D_341_0, k_341_0, D_341_11, k_341_11, k_341_16, D_341_31, k_341_31, D_341_42, k_341_42, R_341, g_iconst, g_istore_n, v_iload_n, g_if_lt, g_ineg, g_bipush, g_icmp_ge, g_icmp_le, g_iadd, g_ireturn, g_imul, v_iinc, g_goto, entL, getL, setL, kL_i, kL_r, isI_s, isR_s, isJ_s, gV_s, iV_i, cs0, cs1, cs2, cs3, cs4, dn_nil, kd_si, kd_sl, kd_sw, mr_si, mr_sl, mr_sw, ml_si, ml_sw, mi_sl, ↓if_neg c1, if_neg c1, ↓if_pos c2, if_pos c2, m1, s1]
  exact main (n - 1) 1 (by have := hn.1; omega) (Nat.le_refl 1) (Or.inl rfl)
/-- the tables of digits -/
def DIG (h : Mm) : Prop := h.kd 92 = some (.inr (.array .byte, 100)) ∧ h.kd 93 = some (.inr (.array .byte, 100)) ∧ ∀ r, r < 100 → h.mi 92 r = Int32.ofNat (48 + r % 10) ∧ h.mi 93 r = Int32.ofNat (48 + r / 10)
/-- the last m digits of v ahead of place E -/
def dgP (B : Nat → Int32) (E v m : Nat) : Nat → Int32 := fun j => if E - m ≤ j ∧ j < E then Int32.ofNat (48 + v / 10 ^ (E - 1 - j) % 10) else B j
theorem dgP_0 {B : Nat → Int32} {E v : Nat} : dgP B E v 0 = B := by
  funext j; unfold dgP; rw [if_neg (by omega)]
theorem dgP_s {B : Nat → Int32} {E v m : Nat} (hm : m + 1 ≤ E) : zu (dgP B E v m) (E - m - 1) (Int32.ofNat (48 + v / 10 ^ m % 10)) = dgP B E v (m + 1) := by
  funext j
  show (if j = E - m - 1 then Int32.ofNat (48 + v / 10 ^ m % 10) else (if E - m ≤ j ∧ j < E then Int32.ofNat (48 + v / 10 ^ (E - 1 - j) % 10) else B j)) = (if E - (m + 1) ≤ j ∧ j < E then Int32.ofNat (48 + v / 10 ^ (E - 1 - j) % 10) else B j)
  by_cases c : j = E - m - 1
  · rw [if_pos c, if_pos (by omega), show E - 1 - j = m by omega]
  · rw [if_neg c]
    by_cases c2 : E - m ≤ j ∧ j < E
    · rw [if_pos c2, if_pos (by omega)]
    · rw [if_neg c2, if_neg (by omega)]
theorem R_342 : PG.2.1 342 = (some .int) := rfl
theorem l_342 {v1 cap E v : Nat} {h : Mm} (D : DIG h) (hk : h.kd v1 = some (.inr (.byte, cap))) (hv1 : 200 ≤ v1) (hcap : cap ≤ 600) (hE : E ≤ cap) {B : Nat → Int32} {ix : Int32} : ∀ (w k m : Nat) (tl : Lc) (y z : Option Value), dgK w k → w < 1000000000 → w = v / 10 ^ m → m + k ≤ E → killL y = y → killL z = z → dB PG 342 22 (some (.int (-(Int32.ofNat w))) :: some (.int ix) :: some (.ref v1) :: y :: z :: some (.int (Int32.ofNat (E - m))) :: some (.int 0) :: tl) [] (h.sw v1 (dgP B E v m)) = some (.inl (some (.int (Int32.ofNat (E - (m + k))))), h.sw v1 (dgP B E v (m + k))) := by
  intro w
  obtain ⟨D1, D2, D3⟩ := D
  have n92 : (92 : Nat) ≠ v1 := by omega
  have n93 : (93 : Nat) ≠ v1 := by omega
  have l100 : (-100 : Int32) = -(Int32.ofNat 100) := by decide
  have l9 : (-9 : Int32) = -(Int32.ofNat 9) := by decide
  have zz : ¬ (100 : Int32) = 0 := by decide
  have mn : ∀ e : Nat, 1 ≤ e → Int32.ofNat e + -1 = Int32.ofNat (e - 1) := fun e he => by
    rw [← Int32.sub_eq_add_neg]
    exact i32_pred (by omega)
  induction w using Nat.strongRecOn with
  | ind w ih =>
    intro k m tl y z hw hw2 hwm hmk hy hz
    rw [D_342_22]
    by_cases c : 100 ≤ w
    · obtain ⟨k1, q1⟩ := dgK_2 hw (by omega)
      obtain ⟨k2, q2⟩ := dgK_2 q1 (by omega)
      have e1 : w / 10 / 10 = w / 100 := by rw [Nat.div_div_eq_div_mul]
      rw [e1] at q2
      have ic : ¬ -(Int32.ofNat 100) < -(Int32.ofNat w) := by
        rw [neg_lt_ (by omega) (by omega)]; omega
      have hr : w % 100 < 100 := Nat.mod_lt _ (by decide)
      obtain ⟨t1, t2⟩ := D3 (w % 100) hr
      have b_1 : inb (Int32.ofNat (w % 100)) 100 = true := inb_nat (by omega) (by decide)
      have n_1 : (Int32.ofNat (w % 100)).toNatClampNeg = w % 100 := i32_nat (by omega)
      have b_2 : inb (Int32.ofNat (E - m - 1)) cap = true := inb_nat (by omega) (by omega)
      have n_2 : (Int32.ofNat (E - m - 1)).toNatClampNeg = E - m - 1 := i32_nat (by omega)
      have b_3 : inb (Int32.ofNat (E - m - 1 - 1)) cap = true := inb_nat (by omega) (by omega)
      have n_3 : (Int32.ofNat (E - m - 1 - 1)).toNatClampNeg = E - m - 1 - 1 := i32_nat (by omega)
      have x1 : w % 100 % 10 = v / 10 ^ m % 10 := by rw [hwm]; omega
      have x2 : w % 100 / 10 = v / 10 ^ (m + 1) % 10 := by
        rw [Nat.pow_succ, ← Nat.div_div_eq_div_mul, ← hwm]; omega
      rw [x1] at t1
      rw [x2] at t2
      have v10 : v / 10 ^ m % 10 < 10 := Nat.mod_lt _ (by decide)
      have v11 : v / 10 ^ (m + 1) % 10 < 10 := Nat.mod_lt _ (by decide)
      have u1 := (ch_ok (c := 48 + v / 10 ^ m % 10) (by omega)).2.2.1
      have u2 := (ch_ok (c := 48 + v / 10 ^ (m + 1) % 10) (by omega)).2.2.1
      have s1 := dgP_s (B := B) (E := E) (v := v) (m := m) (by omega)
      have s2 := dgP_s (B := B) (E := E) (v := v) (m := m + 1) (by omega)
      have em : E - (m + 1) - 1 = E - m - 1 - 1 := by omega
      rw [em] at s2
      have m1 := mn (E - m) (by omega)
      have m2 := mn (E - m - 1) (by omega)
      have r := ih (w / 100) (by omega) (k - 1 - 1) (m + 1 + 1) tl (some (.int (-(Int32.ofNat (w / 100))))) (some (.int (Int32.ofNat (w % 100)))) q2 (by omega) (by rw [Nat.pow_succ, Nat.pow_succ, Nat.mul_assoc, ← Nat.div_div_eq_div_mul, ← hwm]) (by omega) rfl rfl
      rw [show m + 1 + 1 + (k - 1 - 1) = m + k by omega, show E - (m + 1 + 1) = E - m - 1 - 1 by omega] at r
      rw [← r]
      simp -implicitDefEqProofs only [D_342_0, k_342_0, D_342_11, k_342_11, D_342_12, k_342_12, k_342_22, D_342_72, k_342_72, D_342_104, k_342_104, D_342_118, k_342_118, R_342, v_iload_n, g_istore, g_if_ge, g_iconst, g_goto, v_iload, g_if_ne, g_ineg, g_istore_n, g_bipush, g_icmp_gt, g_idiv, g_imul, g_isub, v_aload_n, v_iinc, g_getstatic, v_baload, inB_0, inB_1, v_bastore, wrB_0, g_icmp_ge, g_if_eq, g_ireturn, entL, getL, setL, kL_i, kL_r, isI_s, isR_s, isJ_s, gV_s, iV_i, cs0, cs1, cs2, cs3, cs4, dn_nil, kd_si, kd_sl, kd_sw, mr_si, mr_sl, mr_sw, ml_si, ml_sw, mi_sl, l100, ↓if_neg ic, if_neg ic, ndiv (show w < 2147483648 by omega), ↓if_neg zz, if_neg zz, nrem (show w < 2147483648 by omega), kd_sw, hk, D1, D2, mi_swo n92, mi_swo n93, b_1, n_1, t1, t2, u1, u2, m1, m2, b_2, n_2, b_3, n_3, si_sw (a := v1), sw_sw, mi_sw, s1, s2, hy, hz]
    · have ic : -(Int32.ofNat 100) < -(Int32.ofNat w) := by
        rw [neg_lt_ (by omega) (by omega)]; omega
      obtain ⟨t1, t2⟩ := D3 w (by omega)
      have b_1 : inb (Int32.ofNat (w)) 100 = true := inb_nat (by omega) (by decide)
      have n_1 : (Int32.ofNat (w)).toNatClampNeg = w := i32_nat (by omega)
      have b_2 : inb (Int32.ofNat (E - m - 1)) cap = true := inb_nat (by have := hw.1; omega) (by omega)
      have n_2 : (Int32.ofNat (E - m - 1)).toNatClampNeg = E - m - 1 := i32_nat (by omega)
      have x1 : w % 10 = v / 10 ^ m % 10 := by rw [hwm]
      rw [x1] at t1
      have v10 : v / 10 ^ m % 10 < 10 := Nat.mod_lt _ (by decide)
      have u1 := (ch_ok (c := 48 + v / 10 ^ m % 10) (by omega)).2.2.1
      have hk1 := hw.1
      have s1 := dgP_s (B := B) (E := E) (v := v) (m := m) (by omega)
      have m1 := mn (E - m) (by omega)
      by_cases c9 : w ≤ 9
      · obtain rfl := dgK_1 hw (by omega)
        have i9 : -(Int32.ofNat 9) ≤ -(Int32.ofNat w) := by
          rw [neg_le_ (by omega) (by omega)]; omega
        rw [show E - (m + 1) = E - m - 1 by omega]
        simp -implicitDefEqProofs only [D_342_0, k_342_0, D_342_11, k_342_11, D_342_12, k_342_12, k_342_22, D_342_72, k_342_72, D_342_104, k_342_104, D_342_118, k_342_118, R_342, v_iload_n, g_istore, g_if_ge, g_iconst, g_goto, v_iload, g_if_ne, g_ineg, g_istore_n, g_bipush, g_icmp_gt, g_idiv, g_imul, g_isub, v_aload_n, v_iinc, g_getstatic, v_baload, inB_0, inB_1, v_bastore, wrB_0, g_icmp_ge, g_if_eq, g_ireturn, entL, getL, setL, kL_i, kL_r, isI_s, isR_s, isJ_s, gV_s, iV_i, cs0, cs1, cs2, cs3, cs4, dn_nil, kd_si, kd_sl, kd_sw, mr_si, mr_sl, mr_sw, ml_si, ml_sw, mi_sl, l100, ↓if_pos ic, if_pos ic, l9, ↓if_pos i9, if_pos i9, Int32.neg_neg, kd_sw, hk, D1, D2, mi_swo n92, mi_swo n93, b_1, n_1, t1, u1, m1, b_2, n_2, si_sw (a := v1), sw_sw, mi_sw, s1, ↓if_true, if_true, hy, hz, retX_int]
      · have i9 : ¬ -(Int32.ofNat 9) ≤ -(Int32.ofNat w) := by
          rw [neg_le_ (by omega) (by omega)]; omega
        obtain ⟨k1, q1⟩ := dgK_2 hw (by omega)
        have := dgK_1 q1 (by omega)
        obtain rfl : k = 2 := by omega
        have b_3 : inb (Int32.ofNat (E - m - 1 - 1)) cap = true := inb_nat (by omega) (by omega)
        have n_3 : (Int32.ofNat (E - m - 1 - 1)).toNatClampNeg = E - m - 1 - 1 := i32_nat (by omega)
        have x2 : w / 10 = v / 10 ^ (m + 1) % 10 := by
          rw [Nat.pow_succ, ← Nat.div_div_eq_div_mul, ← hwm]; omega
        rw [x2] at t2
        have v11 : v / 10 ^ (m + 1) % 10 < 10 := Nat.mod_lt _ (by decide)
        have u2 := (ch_ok (c := 48 + v / 10 ^ (m + 1) % 10) (by omega)).2.2.1
        have s2 := dgP_s (B := B) (E := E) (v := v) (m := m + 1) (by omega)
        have em : E - (m + 1) - 1 = E - m - 1 - 1 := by omega
        rw [em] at s2
        have m2 := mn (E - m - 1) (by omega)
        rw [show E - (m + 2) = E - m - 1 - 1 by omega, show m + 2 = m + 1 + 1 by omega]
        simp -implicitDefEqProofs only [D_342_0, k_342_0, D_342_11, k_342_11, D_342_12, k_342_12, k_342_22, D_342_72, k_342_72, D_342_104, k_342_104, D_342_118, k_342_118, R_342, v_iload_n, g_istore, g_if_ge, g_iconst, g_goto, v_iload, g_if_ne, g_ineg, g_istore_n, g_bipush, g_icmp_gt, g_idiv, g_imul, g_isub, v_aload_n, v_iinc, g_getstatic, v_baload, inB_0, inB_1, v_bastore, wrB_0, g_icmp_ge, g_if_eq, g_ireturn, entL, getL, setL, kL_i, kL_r, isI_s, isR_s, isJ_s, gV_s, iV_i, cs0, cs1, cs2, cs3, cs4, dn_nil, kd_si, kd_sl, kd_sw, mr_si, mr_sl, mr_sw, ml_si, ml_sw, mi_sl, l100, ↓if_pos ic, if_pos ic, l9, ↓if_neg i9, if_neg i9, Int32.neg_neg, kd_sw, hk, D1, D2, mi_swo n92, mi_swo n93, b_1, n_1, t1, t2, u1, u2, m1, m2, b_2, n_2, b_3, n_3, si_sw (a := v1), sw_sw, mi_sw, s1, s2, ↓if_true, if_true, hy, hz, retX_int]
theorem m_342 {v1 cap E v n : Nat} {h : Mm} (D : DIG h) (hk : h.kd v1 = some (.inr (.byte, cap))) (hv1 : 200 ≤ v1) (hcap : cap ≤ 600) (hE : E ≤ cap) (hn : dgK v n) (hv : v < 1000000000) (hnE : n ≤ E) : dM PG 342 [.int (Int32.ofNat v), .int (Int32.ofNat E), .ref v1] h = some (.inl (some (.int (Int32.ofNat (E - n)))), h.sw v1 (dgP (h.mi v1) E v n)) := by
  rw [dM_of (Nat.le_of_ble_eq_true rfl)]
  have e0 : 0 ≤ Int32.ofNat v := Int32.not_lt.mp (i32_0n (by omega))
  have g := l_342 D hk hv1 hcap hE (B := h.mi v1) (ix := Int32.ofNat E) v n 0 [] none none hn hv (by rw [Nat.pow_zero, Nat.div_one]) (by omega) rfl rfl
  rw [dgP_0, sw_id, Nat.zero_add, Nat.sub_zero] at g
  simp -implicitDefEqProofs only [D_342_0, k_342_0, D_342_11, k_342_11, D_342_12, k_342_12, k_342_22, D_342_72, k_342_72, D_342_104, k_342_104, D_342_118, k_342_118, R_342, v_iload_n, g_istore, g_if_ge, g_iconst, g_goto, v_iload, g_if_ne, g_ineg, g_istore_n, g_bipush, g_icmp_gt, g_idiv, g_imul, g_isub, v_aload_n, v_iinc, g_getstatic, v_baload, inB_0, inB_1, v_bastore, wrB_0, g_icmp_ge, g_if_eq, g_ireturn, entL, getL, setL, kL_i, kL_r, isI_s, isR_s, isJ_s, gV_s, iV_i, cs0, cs1, cs2, cs3, cs4, dn_nil, kd_si, kd_sl, kd_sw, mr_si, mr_sl, mr_sw, ml_si, ml_sw, mi_sl, ↓if_pos e0, if_pos e0, ↓if_true, if_true, kL_n]
  exact g
-- a number behind the letters
def nuL (len n v : Nat) (c : Nat → Nat) : Nat → Nat := fun j => if j < len then c j else if j < len + n then 48 + v / 10 ^ (len + n - 1 - j) % 10 else c j
theorem R_302 : PG.2.1 302 = (some (.object "java/lang/AbstractStringBuilder")) := rfl
theorem m_302 {h : Mm} {s v cap len x n : Nat} {c : Nat → Nat} (H : SBx h s v cap len c) (D : DIG h) (hs : 200 ≤ s) (hv : 200 ≤ v) (hz : 200 ≤ h.sz) (hn : dgK x n) (hx : x < 1000000000) (hm : len + n ≤ 300) : Apd (dM PG 302 [.ref s, .int (Int32.ofNat x)] h) h s v cap (len + n) (nuL len n x c) := by
  obtain ⟨h1, v1, cap1, g1, H1, hv1, F1, hc1⟩ := m_338 H (mn := len + n) hm
  have g2 := m_339 H1
  have g0 := m_341 hn hx (h := h)
  have D1 : DIG h1 := by
    obtain ⟨f1, f2, f3, f4, -⟩ := F1
    obtain ⟨d1, d2, d3⟩ := D
    refine ⟨?_, ?_, fun r hr => ?_⟩
    · rw [(f2 92 (by omega)).1, d1]
    · rw [(f2 93 (by omega)).1, d2]
    · rw [f4 92 (by omega) (by omega) (by omega), f4 93 (by omega) (by omega) (by omega)]
      exact d3 r hr
  have hv1' : 200 ≤ v1 := by omega
  obtain ⟨k1', -, -, -, i3', -⟩ := H
  obtain ⟨k1, r0, k2, i1, i3, l1, l2, hvs, hvz, hsz, hc⟩ := H1
  have g3 := m_342 (E := len + n) (v := x) D1 k2 hv1' l2 hc1 hn hx (by omega)
  have w0 : (h1.sw v1 (dgP (h1.mi v1) (len + n) x n)).mi s = h1.mi s := mi_swo (Ne.symm hvs)
  refine ⟨(h1.sw v1 (dgP (h1.mi v1) (len + n) x n)).si s 3 (Int32.ofNat (len + n)), v1, cap1, ?_, ?_, hv1, ?_⟩
  · rw [dM_of (Nat.le_of_ble_eq_true rfl)]
    simp -implicitDefEqProofs only [D_302_0, k_302_0, D_302_37, k_302_37, D_302_48, k_302_48, R_302, v_aload_n, g_getfield, sv_i, rf_s, g_getfieldS, g_istore_n, v_iload_n, v_callS1, aft_v, aft_n, g_iadd, v_callV2, v_callV1, g_if_eq, sv_a, v_callS3, g_pop_i, g_pop_r, g_goto, g_put_i, g_areturn, entL, getL, setL, kL_i, kL_r, isI_s, isR_s, isJ_s, gV_s, iV_i, cs0, cs1, cs2, cs3, cs4, dn_nil, kd_si, kd_sl, kd_sw, mr_si, mr_sl, mr_sw, ml_si, ml_sw, mi_sl, k1', i3', g0, i32_add, g1, k1, r0, g2, ↓if_neg z_1, if_neg z_1, g3, kd_sw]
  · refine ⟨k1, r0, k2, ?_, ?_, by omega, l2, hvs, hvz, hsz, fun k hk => ?_⟩
    · rw [mi_sk (by decide), w0, i1]
    · rw [mi_ss]
    · have e1 : ((h1.sw v1 (dgP (h1.mi v1) (len + n) x n)).si s 3 (Int32.ofNat (len + n))).mi v1 k = dgP (h1.mi v1) (len + n) x n k := by
        rw [mi_sa hvs, mi_sw]
      rw [e1]
      unfold dgP nuL
      by_cases e : k < len
      · rw [if_pos e, if_neg (by omega)]
        exact hc k e
      · have : x / 10 ^ (len + n - 1 - k) % 10 < 10 := Nat.mod_lt _ (by decide)
        rw [if_neg e, if_pos hk, if_pos (by omega)]
        exact ⟨by omega, rfl⟩
  · refine F1.tr hv1 ⟨Nat.le_refl _, fun a ha => ⟨rfl, rfl⟩, fun a ha hs => rfl, fun a ha hs hn => ?_, Nat.le_refl _, Nat.le_refl _, Nat.le_refl _⟩
    rw [mi_sa hs, mi_swo hn]
theorem R_240 : PG.2.1 240 = (some (.object "java/lang/StringBuilder")) := rfl
theorem m_240 {h : Mm} {s v cap len x n : Nat} {c : Nat → Nat} (H : SBx h s v cap len c) (D : DIG h) (hs : 200 ≤ s) (hv : 200 ≤ v) (hz : 200 ≤ h.sz) (hn : dgK x n) (hx : x < 1000000000) (hm : len + n ≤ 300) : Apd (dM PG 240 [.ref s, .int (Int32.ofNat x)] h) h s v cap (len + n) (nuL len n x c) := by
  obtain ⟨h1, v1, cap1, g1, H1, hv1, F1⟩ := m_302 H D hs hv hz hn hx hm
  refine ⟨h1, v1, cap1, ?_, H1, hv1, F1⟩
  have k1 := H.1
  rw [dM_of (Nat.le_of_ble_eq_true rfl)]
  simp -implicitDefEqProofs only [D_240_0, k_240_0, R_240, v_aload_n, v_iload_n, v_callU2, aft_v, aft_n, g_pop_i, g_pop_r, g_areturn, entL, getL, setL, kL_i, kL_r, isI_s, isR_s, isJ_s, gV_s, iV_i, cs0, cs1, cs2, cs3, cs4, dn_nil, kd_si, kd_sl, kd_sw, mr_si, mr_sl, mr_sw, ml_si, ml_sw, mi_sl, k1, g1]
