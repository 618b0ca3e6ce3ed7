-- ===== small stacks =====
theorem cat_le (v : Value) : (if cat1 v = true then 1 else 2) ≤ 2 := by split <;> decide
theorem cs0 : catS [] ≤ 8 := Nat.zero_le _
theorem cs1 {a : Value} : catS [a] ≤ 8 := by
  have := cat_le a
  show (if cat1 a = true then 1 else 2) + 0 ≤ 8; omega
theorem cs2 {a b : Value} : catS [a, b] ≤ 8 := by
  have := cat_le a
  have := cat_le b
  show (if cat1 a = true then 1 else 2) + ((if cat1 b = true then 1 else 2) + 0) ≤ 8; omega
theorem cs3 {a b c : Value} : catS [a, b, c] ≤ 8 := by
  have := cat_le a
  have := cat_le b
  have := cat_le c
  show (if cat1 a = true then 1 else 2) + ((if cat1 b = true then 1 else 2) + ((if cat1 c = true then 1 else 2) + 0)) ≤ 8; omega
theorem cs4 {a b c d : Value} : catS [a, b, c, d] ≤ 8 := by
  have := cat_le a
  have := cat_le b
  have := cat_le c
  have := cat_le d
  show (if cat1 a = true then 1 else 2) + ((if cat1 b = true then 1 else 2) + ((if cat1 c = true then 1 else 2) + ((if cat1 d = true then 1 else 2) + 0))) ≤ 8; omega
-- ===== small numbers =====
theorem i32_add {a b : Nat} : Int32.ofNat a + Int32.ofNat b = Int32.ofNat (a + b) := (Int32.ofNat_add a b).symm
theorem i32_nat {n : Nat} (h : n < 2147483648) : (Int32.ofNat n).toNatClampNeg = n := by
  rw [Int32.toNatClampNeg_ofNat_of_lt h]
theorem i32_toInt {n : Nat} (h : n < 2147483648) : (Int32.ofNat n).toInt = n := by
  rw [Int32.toInt_ofNat_of_lt h]
theorem i32_lt {a b : Nat} (ha : a < 2147483648) (hb : b < 2147483648) : Int32.ofNat a < Int32.ofNat b ↔ a < b := by
  rw [Int32.lt_iff_toInt_lt, i32_toInt ha, i32_toInt hb]; omega
theorem i32_le {a b : Nat} (ha : a < 2147483648) (hb : b < 2147483648) : Int32.ofNat a ≤ Int32.ofNat b ↔ a ≤ b := by
  rw [Int32.le_iff_toInt_le, i32_toInt ha, i32_toInt hb]; omega
theorem inb_nat {a n : Nat} (ha : a < n) (hn : n ≤ 2147483648) : inb (Int32.ofNat a) n = true := by
  have h : a < 2147483648 := Nat.lt_of_lt_of_le ha hn
  refine inb_of ?_ (by rw [i32_nat h]; exact ha)
  show ¬ Int32.ofNat a < Int32.ofNat 0
  rw [i32_lt h (by decide)]; omega
-- ===== the model: small questions =====
def inF (v lo hi : Int32) : Int32 := if v < lo then 0 else if hi < v then 0 else 1
theorem rX_0 {h : Mm} : retX (some .boolean) 0 h = some (.inl (some (.int 0)), h) := rfl
theorem rX_1 {h : Mm} : retX (some .boolean) 1 h = some (.inl (some (.int 1)), h) := rfl
theorem R_136 : PG.2.1 136 = some .boolean := rfl
theorem m_136 {v lo hi : Int32} {h : Mm} : dM PG 136 [.int v, .int lo, .int hi] h = some (.inl (some (.int (inF v lo hi))), h) := by
  rw [dM_of (Nat.le_of_ble_eq_true rfl)]
  simp -implicitDefEqProofs only [entL, D_136_0, D_136_14, D_136_15, k_136_0, k_136_14, k_136_15, v_iload_n, g_icmp_lt, g_icmp_gt, g_iconst, g_goto, dn_nil, g_ireturn, getL, isI_s, gV_s, R_136, rX_0, rX_1]
  unfold inF
  split
  · rfl
  · split <;> rfl
theorem R_218 : PG.2.1 218 = some .boolean := rfl
theorem m_218 {i : Int32} {h : Mm} {p q : Nat} (hp : h.kd p = some (.inl 8)) (hq : h.mr p 15 = some q) (hk : h.kd q = some (.inr (.int, 1168))) : dM PG 218 [.ref p, .int i] h = some (.inl (some (.int (inF i 0 (h.mi q 9 - 1)))), h) := by
  rw [dM_of (Nat.le_of_ble_eq_true rfl)]
  have h9 : inb 9 1168 = true := by decide
  have n9 : (9 : Int32).toNatClampNeg = 9 := by decide
  simp -implicitDefEqProofs only [entL, D_218_0, k_218_0, v_iload_n, v_aload_n, g_iconst, g_bipush, g_getfield hp, sv_a, hq, rf_s, v_iaload, hk, inI_0, h9, n9, g_isub, v_callS3, cS_n, Nat.zero_le, m_136, aft_v, g_ireturn, getL, isI_s, isR_s, gV_s, R_218]
  unfold inF
  split
  · rfl
  · split <;> rfl
theorem zu_same {α : Type} {f : Nat → α} {k : Nat} {v : α} : zu f k v k = v := if_pos rfl
theorem kL_i {x : Int32} : killL (some (.int x)) = some (.int x) := rfl
theorem kL_r {x : Nat} : killL (some (.ref x)) = some (.ref x) := rfl
theorem kL_0 : killL (some .null) = some .null := rfl
theorem kL_n : killL none = none := rfl
theorem kL_j {x : Int64} : killL (some (.long x)) = none := rfl
-- copy
theorem cp_st {f t : Nat → Int32} {a w k : Nat} : zu (va_cpy f t a w k) (w + k) (f (a + k)) = va_cpy f t a w (k + 1) := by
  funext j
  unfold zu va_cpy
  by_cases h : j = w + k
  · subst h
    simp only [if_true]
    rw [if_pos (by omega)]
    congr 1; omega
  · rw [if_neg h]
    by_cases h2 : w ≤ j ∧ j < w + k
    · rw [if_pos h2, if_pos (by omega)]
    · rw [if_neg h2, if_neg (by omega)]
theorem R_150 : PG.2.1 150 = none := rfl
theorem l_150 {p q a w : Nat} {np nq : Nat} (hpq : p ≠ q) (ha : a + 1168 ≤ np) (hw : w + 1168 ≤ nq) (hnp : np < 1000000) (hnq : nq < 1000000) : ∀ (d k : Nat) {h : Mm}, k + d = 1168 → h.kd p = some (.inr (.int, np)) → h.kd q = some (.inr (.int, nq)) → dB PG 150 3 [some (.ref p), some (.int (Int32.ofNat a)), some (.ref q), some (.int (Int32.ofNat w)), some (.int (Int32.ofNat k))] [] (h.sw q (va_cpy (h.mi p) (h.mi q) a w k)) = some (.inl none, h.sw q (va_cpy (h.mi p) (h.mi q) a w 1168)) := by
  intro d
  induction d with
  | zero =>
    intro k h hk h1 h2
    obtain rfl : k = 1168 := by omega
    have hc : (1168 : Int32) ≤ Int32.ofNat 1168 := by decide
    simp -implicitDefEqProofs only [D_150_3, k_150_3, v_iload, g_sipush, g_icmp_ge, getL, isI_s, gV_s, if_pos hc, D_150_29, k_150_29, g_return R_150]
  | succ d ih =>
    intro k h hk h1 h2
    have hc : ¬ (1168 : Int32) ≤ Int32.ofNat k := by
      show ¬ Int32.ofNat 1168 ≤ Int32.ofNat k
      rw [i32_le (by decide) (by omega)]; omega
    have b1 : inb (Int32.ofNat (a + k)) np = true := inb_nat (by omega) (by omega)
    have b2 : inb (Int32.ofNat (w + k)) nq = true := inb_nat (by omega) (by omega)
    have n1 : (Int32.ofNat (a + k)).toNatClampNeg = a + k := i32_nat (by omega)
    have n2 : (Int32.ofNat (w + k)).toNatClampNeg = w + k := i32_nat (by omega)
    have s1 : Int32.ofNat k + 1 = Int32.ofNat (k + 1) := i32_add (a := k) (b := 1)
    rw [D_150_3]
    simp -implicitDefEqProofs only [k_150_3, kL_i, v_iload, v_iload_n, v_aload_n, g_sipush, g_icmp_ge, getL, isI_s, isR_s, gV_s, if_neg hc, g_iadd, i32_add, v_iaload, v_iastore, kd_sw, h1, h2, inI_0, wrI_0, b1, b2, n1, n2, mi_swo hpq, v_iinc, iV_i, s1, g_goto, setL, si_sw, sw_sw, mi_sw, cp_st]
    exact ih (k + 1) (by omega) h1 h2
theorem m_150 {p q a w : Nat} {np nq : Nat} (hpq : p ≠ q) (ha : a + 1168 ≤ np) (hw : w + 1168 ≤ nq) (hnp : np < 1000000) (hnq : nq < 1000000) {h : Mm} (h1 : h.kd p = some (.inr (.int, np))) (h2 : h.kd q = some (.inr (.int, nq))) : dM PG 150 [.ref p, .int (Int32.ofNat a), .ref q, .int (Int32.ofNat w)] h = some (.inl none, h.sw q (va_cpy (h.mi p) (h.mi q) a w 1168)) := by
  rw [dM_of (Nat.le_of_ble_eq_true rfl)]
  have e := l_150 hpq ha hw hnp hnq 1168 0 (h := h) rfl h1 h2
  have z : va_cpy (h.mi p) (h.mi q) a w 0 = h.mi q := by
    funext j; unfold va_cpy; rw [if_neg (by omega)]
  rw [z, sw_id] at e
  simp -implicitDefEqProofs only [entL, D_150_0, k_150_0, g_iconst, g_istore, setL, kL_i, dn_nil]
  exact e
