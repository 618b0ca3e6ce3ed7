-- ===== the next to be iced; means =====
theorem R_89 : PG.2.1 89 = (some .int) := rfl
theorem m_89n {i : Int32} {h : Mm} (H : MO h) (hl : h.mi 277 21 = 0) : dM PG 89 [.ref 277, .int i] h = some (.inl (some (.int 0)), h.si 277 0 1) := by
  rw [dM_of (Nat.le_of_ble_eq_true rfl)]
  simp -implicitDefEqProofs only [D_89_0, k_89_0, R_89, v_aload_n, g_iconst, v_callV2, aft_v, aft_n, g_if_ne, g_ireturn, entL, getL, setL, kL_i, kL_r, isI_s, isR_s, isJ_s, gV_s, iV_i, cs0, cs1, cs2, cs3, cs4, dn_nil, kd_si, kd_sl, kd_sw, mr_si, mr_sl, mr_sw, ml_si, ml_sw, mi_sl, mk_277 H, mk_278 H, mk_279 H, mk_280 H, mk_281 H, mk_282 H, mk_283 H, mk_284 H, mk_285 H, mk_286 H, mk_287 H, mk_288 H, mk_289 H, mr_1 H, mr_11 H, mr_12 H, mr_13 H, mr_14 H, mr_15 H, mr_16 H, mr_17 H, mr_18 H, mr_19 H, mr_24 H, mr_25 H, m_138n H hl, ↓if_true, if_true, retX_int]
theorem m_89x {i : Int32} {h : Mm} (H : MO h) (hl : ¬ h.mi 277 21 = 0) (c : i < 0) : dM PG 89 [.ref 277, .int i] h = some (.inl (some (.int 0)), h.si 277 0 2) := by
  rw [dM_of (Nat.le_of_ble_eq_true rfl)]
  have c2 : ¬ 0 ≤ i := Int32.not_le.mpr c
  simp -implicitDefEqProofs only [D_89_0, k_89_0, D_89_10, k_89_10, R_89, v_aload_n, g_iconst, v_callV2, aft_v, aft_n, g_if_ne, g_ireturn, v_iload_n, g_if_ge, entL, getL, setL, kL_i, kL_r, isI_s, isR_s, isJ_s, gV_s, iV_i, cs0, cs1, cs2, cs3, cs4, dn_nil, kd_si, kd_sl, kd_sw, mr_si, mr_sl, mr_sw, ml_si, ml_sw, mi_sl, mk_277 H, mk_278 H, mk_279 H, mk_280 H, mk_281 H, mk_282 H, mk_283 H, mk_284 H, mk_285 H, mk_286 H, mk_287 H, mk_288 H, mk_289 H, mr_1 H, mr_11 H, mr_12 H, mr_13 H, mr_14 H, mr_15 H, mr_16 H, mr_17 H, mr_18 H, mr_19 H, mr_24 H, mr_25 H, m_138y H hl, ↓if_neg z_1, if_neg z_1, ↓if_neg c2, if_neg c2, m_156' (MO_si H), si_si, retX_int]
/-- the boxes that wait are those from q on, in their order -/
def nwQ (S : Nat → Int32) (n q : Nat) : Prop := nwGo S none n 0 none = (if q < n then some q else none) ∧ ∀ j, q ≤ j → j < n → nwGo S (some j) n 0 none = (if j + 1 < n then some (j + 1) else none)
theorem l_89 {i : Int32} {n q T : Nat} (hn : n ≤ 80) (hq : q ≤ n) (hT : q + T ≤ n) (hi : Int32.ofNat T ≤ i) {h : Mm} (H : MO h) (h8 : h.mi 283 8 = Int32.ofNat n) (hw : nwQ (h.mi 283) n q) : ∃ tl, dB PG 89 20 [some (.ref 277), some (.int i)] [] (h.si 277 0 0) = dB PG 89 31 (some (.ref 277) :: some (.int i) :: some (.int (oN (if q + T < n then some (q + T) else none))) :: some (.int (Int32.ofNat T)) :: tl) [] (h.si 277 0 0) := by
  have g0 := m_208 (s := 283) (beh := none) hn (fun a e => by cases e) (h := h.si 277 0 0) (mk_283 H) (by rw [mi_sa k283, h8])
  rw [mi_sa k283, hw.1] at g0
  have z0 : oN none = -1 := rfl
  rw [z0] at g0
  have e0 : dB PG 89 20 [some (.ref 277), some (.int i)] [] (h.si 277 0 0) = dB PG 89 31 (some (.ref 277) :: some (.int i) :: some (.int (oN (if q + 0 < n then some (q + 0) else none))) :: some (.int (Int32.ofNat 0)) :: []) [] (h.si 277 0 0) := by
    simp -implicitDefEqProofs only [D_89_20, k_89_20, v_aload_n, g_getfield, sv_a, rf_s, g_iconst, v_callS2, aft_v, aft_n, g_istore_n, entL, getL, setL, kL_i, kL_r, isI_s, isR_s, isJ_s, gV_s, iV_i, cs0, cs1, cs2, cs3, cs4, dn_nil, kd_si, kd_sl, kd_sw, mr_si, mr_sl, mr_sw, ml_si, ml_sw, mi_sl, mk_277 H, mk_278 H, mk_279 H, mk_280 H, mk_281 H, mk_282 H, mk_283 H, mk_284 H, mk_285 H, mk_286 H, mk_287 H, mk_288 H, mk_289 H, mr_1 H, mr_11 H, mr_12 H, mr_13 H, mr_14 H, mr_15 H, mr_16 H, mr_17 H, mr_18 H, mr_19 H, mr_24 H, mr_25 H, g0]
    rfl
  obtain ⟨tl, e⟩ := li2 (A := Unit) (P := PG) (y := 89) (pc := 31) (n := T) (h := h.si 277 0 0) (f := fun _ a => a) (L := fun k _ tl => some (.ref 277) :: some (.int i) :: some (.int (oN (if q + k < n then some (q + k) else none))) :: some (.int (Int32.ofNat k)) :: tl) (by
    intro k a tl hk
    refine ⟨tl, ?_⟩
    have e1 : ¬ i ≤ Int32.ofNat k := by
      have h1 : Int32.ofNat k < Int32.ofNat T := by rw [i32_lt (by omega) (by omega)]; exact hk
      exact Int32.not_le.mpr (Int32.lt_of_lt_of_le h1 hi)
    have s1 : Int32.ofNat (k) + 1 = Int32.ofNat (k + 1) := i32_add (b := 1)
    have hlt : q + k < n := by omega
    have g1 := m_208 (s := 283) (beh := some (q + k)) hn (fun a e => by cases e; omega) (h := h.si 277 0 0) (mk_283 H) (by rw [mi_sa k283, h8])
    rw [mi_sa k283, hw.2 (q + k) (by omega) hlt] at g1
    have z1 : oN (some (q + k)) = Int32.ofNat (q + k) := rfl
    rw [z1] at g1
    have e2 : ¬ Int32.ofNat (q + k) = -1 := oN_s (by omega)
    rw [D_89_31, if_pos hlt, z1]
    simp -implicitDefEqProofs only [D_89_0, k_89_0, D_89_10, k_89_10, D_89_20, k_89_20, k_89_31, D_89_56, k_89_56, D_89_69, k_89_69, D_89_70, k_89_70, R_89, v_aload_n, g_iconst, v_callV2, aft_v, aft_n, g_if_ne, g_ireturn, v_iload_n, g_if_ge, g_getfield, sv_a, rf_s, v_callS2, g_istore_n, g_icmp_ge, g_icmp_eq, v_iinc, g_goto, g_icmp_ne, entL, getL, setL, kL_i, kL_r, isI_s, isR_s, isJ_s, gV_s, iV_i, cs0, cs1, cs2, cs3, cs4, dn_nil, kd_si, kd_sl, kd_sw, mr_si, mr_sl, mr_sw, ml_si, ml_sw, mi_sl, mk_277 H, mk_278 H, mk_279 H, mk_280 H, mk_281 H, mk_282 H, mk_283 H, mk_284 H, mk_285 H, mk_286 H, mk_287 H, mk_288 H, mk_289 H, mr_1 H, mr_11 H, mr_12 H, mr_13 H, mr_14 H, mr_15 H, mr_16 H, mr_17 H, mr_18 H, mr_19 H, mr_24 H, mr_25 H, ↓if_neg e1, if_neg e1, ↓if_neg e2, if_neg e2, g1, s1]
    rfl) T 0 () [] (by omega)
  exact ⟨tl, e0.trans e⟩
theorem m_89z {i : Int32} {n q : Nat} (hn : n ≤ 80) (hq : q ≤ n) {h : Mm} (H : MO h) (hl : ¬ h.mi 277 21 = 0) (c : 0 ≤ i) (hi : ¬ i < Int32.ofNat (n - q)) (h8 : h.mi 283 8 = Int32.ofNat n) (hw : nwQ (h.mi 283) n q) : dM PG 89 [.ref 277, .int i] h = some (.inl (some (.int 0)), h.si 277 0 2) := by
  rw [dM_of (Nat.le_of_ble_eq_true rfl)]
  obtain ⟨tl, e⟩ := l_89 (i := i) (T := n - q) hn hq (by omega) (Int32.not_lt.mp hi) H h8 hw
  have z : ¬ q + (n - q) < n := by omega
  rw [if_neg z, show oN none = -1 from rfl] at e
  simp -implicitDefEqProofs only [D_89_0, k_89_0, D_89_10, k_89_10, R_89, v_aload_n, g_iconst, v_callV2, aft_v, aft_n, g_if_ne, g_ireturn, v_iload_n, g_if_ge, entL, getL, setL, kL_i, kL_r, isI_s, isR_s, isJ_s, gV_s, iV_i, cs0, cs1, cs2, cs3, cs4, dn_nil, kd_si, kd_sl, kd_sw, mr_si, mr_sl, mr_sw, ml_si, ml_sw, mi_sl, mk_277 H, mk_278 H, mk_279 H, mk_280 H, mk_281 H, mk_282 H, mk_283 H, mk_284 H, mk_285 H, mk_286 H, mk_287 H, mk_288 H, mk_289 H, mr_1 H, mr_11 H, mr_12 H, mr_13 H, mr_14 H, mr_15 H, mr_16 H, mr_17 H, mr_18 H, mr_19 H, mr_24 H, mr_25 H, m_138y H hl, ↓if_neg z_1, if_neg z_1, ↓if_pos c, if_pos c]
  rw [e, D_89_31]
  by_cases d : i ≤ Int32.ofNat (n - q)
  · simp -implicitDefEqProofs only [D_89_0, k_89_0, D_89_10, k_89_10, k_89_20, k_89_31, D_89_56, k_89_56, D_89_69, k_89_69, D_89_70, k_89_70, R_89, v_aload_n, g_iconst, v_callV2, aft_v, aft_n, g_if_ne, g_ireturn, v_iload_n, g_if_ge, g_getfield, sv_a, rf_s, v_callS2, g_istore_n, g_icmp_ge, g_icmp_eq, v_iinc, g_goto, g_icmp_ne, entL, getL, setL, kL_i, kL_r, isI_s, isR_s, isJ_s, gV_s, iV_i, cs0, cs1, cs2, cs3, cs4, dn_nil, kd_si, kd_sl, kd_sw, mr_si, mr_sl, mr_sw, ml_si, ml_sw, mi_sl, mk_277 H, mk_278 H, mk_279 H, mk_280 H, mk_281 H, mk_282 H, mk_283 H, mk_284 H, mk_285 H, mk_286 H, mk_287 H, mk_288 H, mk_289 H, mr_1 H, mr_11 H, mr_12 H, mr_13 H, mr_14 H, mr_15 H, mr_16 H, mr_17 H, mr_18 H, mr_19 H, mr_24 H, mr_25 H, ↓if_pos d, if_pos d, ↓if_true, if_true, m_156' (MO_si H), si_si, retX_int]
  · simp -implicitDefEqProofs only [D_89_0, k_89_0, D_89_10, k_89_10, k_89_20, k_89_31, D_89_56, k_89_56, D_89_69, k_89_69, D_89_70, k_89_70, R_89, v_aload_n, g_iconst, v_callV2, aft_v, aft_n, g_if_ne, g_ireturn, v_iload_n, g_if_ge, g_getfield, sv_a, rf_s, v_callS2, g_istore_n, g_icmp_ge, g_icmp_eq, v_iinc, g_goto, g_icmp_ne, entL, getL, setL, kL_i, kL_r, isI_s, isR_s, isJ_s, gV_s, iV_i, cs0, cs1, cs2, cs3, cs4, dn_nil, kd_si, kd_sl, kd_sw, mr_si, mr_sl, mr_sw, ml_si, ml_sw, mi_sl, mk_277 H, mk_278 H, mk_279 H, mk_280 H, mk_281 H, mk_282 H, mk_283 H, mk_284 H, mk_285 H, mk_286 H, mk_287 H, mk_288 H, mk_289 H, mr_1 H, mr_11 H, mr_12 H, mr_13 H, mr_14 H, mr_15 H, mr_16 H, mr_17 H, mr_18 H, mr_19 H, mr_24 H, mr_25 H, ↓if_neg d, if_neg d, ↓if_true, if_true, m_156' (MO_si H), si_si, retX_int]
theorem m_89y {r n q : Nat} (hn : n ≤ 80) (hr : q + r < n) {h : Mm} (H : MO h) (hl : ¬ h.mi 277 21 = 0) (h8 : h.mi 283 8 = Int32.ofNat n) (hw : nwQ (h.mi 283) n q) : dM PG 89 [.ref 277, .int (Int32.ofNat r)] h = some (.inl (some (.int (Int32.ofNat (q + r)))), h.si 277 0 0) := by
  rw [dM_of (Nat.le_of_ble_eq_true rfl)]
  have er : Int32.ofNat (r) ≤ Int32.ofNat (r) := by rw [i32_le (by omega) (by omega)]; omega
  obtain ⟨tl, e⟩ := l_89 (i := Int32.ofNat r) (T := r) hn (by omega) (by omega) er H h8 hw
  rw [if_pos hr, show oN (some (q + r)) = Int32.ofNat (q + r) from rfl] at e
  have c : 0 ≤ Int32.ofNat r := Int32.not_lt.mp (i32_0n (by omega))
  have e2 : ¬ Int32.ofNat (q + r) = -1 := oN_s (by omega)
  simp -implicitDefEqProofs only [D_89_0, k_89_0, D_89_10, k_89_10, R_89, v_aload_n, g_iconst, v_callV2, aft_v, aft_n, g_if_ne, g_ireturn, v_iload_n, g_if_ge, entL, getL, setL, kL_i, kL_r, isI_s, isR_s, isJ_s, gV_s, iV_i, cs0, cs1, cs2, cs3, cs4, dn_nil, kd_si, kd_sl, kd_sw, mr_si, mr_sl, mr_sw, ml_si, ml_sw, mi_sl, mk_277 H, mk_278 H, mk_279 H, mk_280 H, mk_281 H, mk_282 H, mk_283 H, mk_284 H, mk_285 H, mk_286 H, mk_287 H, mk_288 H, mk_289 H, mr_1 H, mr_11 H, mr_12 H, mr_13 H, mr_14 H, mr_15 H, mr_16 H, mr_17 H, mr_18 H, mr_19 H, mr_24 H, mr_25 H, m_138y H hl, ↓if_neg z_1, if_neg z_1, ↓if_pos c, if_pos c]
  rw [e, D_89_31]
  simp -implicitDefEqProofs only [D_89_0, k_89_0, D_89_10, k_89_10, k_89_20, k_89_31, D_89_56, k_89_56, D_89_69, k_89_69, D_89_70, k_89_70, R_89, v_aload_n, g_iconst, v_callV2, aft_v, aft_n, g_if_ne, g_ireturn, v_iload_n, g_if_ge, g_getfield, sv_a, rf_s, v_callS2, g_istore_n, g_icmp_ge, g_icmp_eq, v_iinc, g_goto, g_icmp_ne, entL, getL, setL, kL_i, kL_r, isI_s, isR_s, isJ_s, gV_s, iV_i, cs0, cs1, cs2, cs3, cs4, dn_nil, kd_si, kd_sl, kd_sw, mr_si, mr_sl, mr_sw, ml_si, ml_sw, mi_sl, mk_277 H, mk_278 H, mk_279 H, mk_280 H, mk_281 H, mk_282 H, mk_283 H, mk_284 H, mk_285 H, mk_286 H, mk_287 H, mk_288 H, mk_289 H, mr_1 H, mr_11 H, mr_12 H, mr_13 H, mr_14 H, mr_15 H, mr_16 H, mr_17 H, mr_18 H, mr_19 H, mr_24 H, mr_25 H, ↓if_pos er, if_pos er, ↓if_neg e2, if_neg e2, retX_int]
-- the greatest common divisor
theorem i32_div {a b : Nat} (ha : a < 2147483648) (hb : b < 2147483648) : Int32.ofNat a / Int32.ofNat b = Int32.ofNat (a / b) := (Int32.ofNat_div ha hb).symm
theorem i32_rem {a b : Nat} (ha : a < 2147483648) (hb : b < 2147483648) : Int32.ofNat a - Int32.ofNat a / Int32.ofNat b * Int32.ofNat b = Int32.ofNat (a % b) := by
  rw [i32_div ha hb, i32_mul]
  have e : a = a % b + a / b * b := by rw [Nat.mul_comm]; exact (Nat.mod_add_div a b).symm
  rw [show Int32.ofNat a = Int32.ofNat (a % b) + Int32.ofNat (a / b * b) by rw [i32_add, ← e]]
  exact Int32.add_sub_cancel _ _
theorem i32_z {a : Nat} (ha : a < 2147483648) : Int32.ofNat a = 0 ↔ a = 0 := by
  constructor
  · intro e
    have := congrArg Int32.toNatClampNeg e
    rw [i32_nat ha] at this
    exact this
  · intro e; subst e; rfl
theorem R_192 : PG.2.1 192 = (some .int) := rfl
theorem l_192 : ∀ (y x : Nat) (v w : Int32) (tl : Lc) (h : Mm), x < 2147483648 → y < 2147483648 → dB PG 192 4 (some (.int v) :: some (.int w) :: some (.int (Int32.ofNat x)) :: some (.int (Int32.ofNat y)) :: tl) [] h = some (.inl (some (.int (Int32.ofNat (Nat.gcd x y)))), h) := by
  intro y
  induction y using Nat.strongRecOn with
  | ind y ih =>
    intro x v w tl h hx hy
    rw [D_192_4]
    by_cases c : y = 0
    · subst c
      have z : Int32.ofNat 0 = 0 := rfl
      rw [Nat.gcd_zero_right]
      simp -implicitDefEqProofs only [D_192_0, k_192_0, k_192_4, D_192_21, k_192_21, R_192, v_iload_n, g_istore_n, g_if_eq, g_irem, g_istore, v_iload, g_goto, g_ireturn, entL, getL, setL, kL_i, kL_r, isI_s, isR_s, isJ_s, gV_s, iV_i, cs0, cs1, cs2, cs3, cs4, dn_nil, kd_si, kd_sl, kd_sw, mr_si, mr_sl, mr_sw, ml_si, ml_sw, mi_sl, z, ↓if_true, if_true, retX_int]
    · have z : ¬ Int32.ofNat y = 0 := fun e => c ((i32_z hy).mp e)
      have hlt : x % y < y := Nat.mod_lt _ (Nat.pos_of_ne_zero c)
      have e := ih (x % y) hlt y v w (some (.int (Int32.ofNat (x % y))) :: tl.tail) h hy (by omega)
      rw [Nat.gcd_comm y (x % y), ← Nat.gcd_rec, Nat.gcd_comm y x] at e
      rw [← e]
      simp -implicitDefEqProofs only [D_192_0, k_192_0, k_192_4, D_192_21, k_192_21, R_192, v_iload_n, g_istore_n, g_if_eq, g_irem, g_istore, v_iload, g_goto, g_ireturn, entL, getL, setL, kL_i, kL_r, isI_s, isR_s, isJ_s, gV_s, iV_i, cs0, cs1, cs2, cs3, cs4, dn_nil, kd_si, kd_sl, kd_sw, mr_si, mr_sl, mr_sw, ml_si, ml_sw, mi_sl, ↓if_neg z, if_neg z, i32_rem hx hy, setL_0]
theorem m_192 {x y : Nat} (hx : x < 2147483648) (hy : y < 2147483648) {h : Mm} : dM PG 192 [.int (Int32.ofNat x), .int (Int32.ofNat y)] h = some (.inl (some (.int (Int32.ofNat (Nat.gcd x y)))), h) := by
  rw [dM_of (Nat.le_of_ble_eq_true rfl)]
  simp -implicitDefEqProofs only [D_192_0, k_192_0, v_iload_n, g_istore_n, entL, getL, setL, kL_i, kL_r, isI_s, isR_s, isJ_s, gV_s, iV_i, cs0, cs1, cs2, cs3, cs4, dn_nil, kd_si, kd_sl, kd_sw, mr_si, mr_sl, mr_sw, ml_si, ml_sw, mi_sl]
  exact l_192 y x _ _ _ h hx hy
theorem R_55 : PG.2.1 55 = (some .int) := rfl
theorem m_55n {i j : Int32} {h : Mm} (H : MO h) (hl : h.mi 277 21 = 0) : dM PG 55 [.ref 277, .int i, .int j] h = some (.inl (some (.int 0)), h.si 277 0 1) := by
  rw [dM_of (Nat.le_of_ble_eq_true rfl)]
  simp -implicitDefEqProofs only [D_55_0, k_55_0, R_55, v_aload_n, v_iload_n, v_callV2, aft_v, aft_n, g_if_ne, g_iconst, g_ireturn, entL, getL, setL, kL_i, kL_r, isI_s, isR_s, isJ_s, gV_s, iV_i, cs0, cs1, cs2, cs3, cs4, dn_nil, kd_si, kd_sl, kd_sw, mr_si, mr_sl, mr_sw, ml_si, ml_sw, mi_sl, mk_277 H, mk_278 H, mk_279 H, mk_280 H, mk_281 H, mk_282 H, mk_283 H, mk_284 H, mk_285 H, mk_286 H, mk_287 H, mk_288 H, mk_289 H, mr_1 H, mr_11 H, mr_12 H, mr_13 H, mr_14 H, mr_15 H, mr_16 H, mr_17 H, mr_18 H, mr_19 H, mr_24 H, mr_25 H, m_154 H, m_138n H hl, ↓if_true, if_true, retX_int]
theorem m_55x {i j : Int32} {h : Mm} (H : MO h) (hl : ¬ h.mi 277 21 = 0) (c : inF i 0 (h.mi 279 7 - 1) = 0) : dM PG 55 [.ref 277, .int i, .int j] h = some (.inl (some (.int 0)), h.si 277 0 2) := by
  rw [dM_of (Nat.le_of_ble_eq_true rfl)]
  simp -implicitDefEqProofs only [D_55_0, k_55_0, R_55, v_aload_n, v_iload_n, v_callV2, aft_v, aft_n, g_if_ne, g_iconst, g_ireturn, entL, getL, setL, kL_i, kL_r, isI_s, isR_s, isJ_s, gV_s, iV_i, cs0, cs1, cs2, cs3, cs4, dn_nil, kd_si, kd_sl, kd_sw, mr_si, mr_sl, mr_sw, ml_si, ml_sw, mi_sl, mk_277 H, mk_278 H, mk_279 H, mk_280 H, mk_281 H, mk_282 H, mk_283 H, mk_284 H, mk_285 H, mk_286 H, mk_287 H, mk_288 H, mk_289 H, mr_1 H, mr_11 H, mr_12 H, mr_13 H, mr_14 H, mr_15 H, mr_16 H, mr_17 H, mr_18 H, mr_19 H, mr_24 H, mr_25 H, m_154 H, c, m_138x H hl, ↓if_true, if_true, retX_int]
theorem m_55y {i j : Int32} {n sm mn : Nat} (hn : n ≤ 80) {h : Mm} (H : MO h) (hl : ¬ h.mi 277 21 = 0) (c : inF i 0 (h.mi 279 7 - 1) = 1) (h8 : h.mi 283 8 = Int32.ofNat n) (hs : fl (ovS (h.mi 283) i) n 0 0 = Int32.ofNat sm) (hsm : sm < 2147483648) (hm : fl (bxS (h.mi 283) i) n 0 0 = Int32.ofNat mn) (hmn : mn ≤ 80) : dM PG 55 [.ref 277, .int i, .int j] h = some (.inl (some (.int (Int32.ofNat ((if j = 0 then sm else max 1 mn) / Nat.gcd sm (max 1 mn))))), h.si 277 0 0) := by
  rw [dM_of (Nat.le_of_ble_eq_true rfl)]
  have g1 := m_143 (x := i) hn (Nat.zero_le n) (h := h.si 277 0 0) (mk_283 H) (by rw [mi_sa k283, h8])
  rw [mi_sa k283, show Int32.ofNat 0 = 0 from rfl, Nat.sub_zero, hs] at g1
  have g2 := m_141 (x := i) hn (Nat.zero_le n) (h := h.si 277 0 0) (mk_283 H) (by rw [mi_sa k283, h8])
  rw [mi_sa k283, show Int32.ofNat 0 = 0 from rfl, Nat.sub_zero, hm] at g2
  have mx : (if (1 : Int32) < Int32.ofNat mn then Int32.ofNat mn else 1) = Int32.ofNat (max 1 mn) := by
    by_cases d : 1 < mn
    · rw [if_pos (by show Int32.ofNat 1 < Int32.ofNat mn; rw [i32_lt (by omega) (by omega)]; exact d), Nat.max_eq_right (by omega)]
    · rw [if_neg (by show ¬ Int32.ofNat 1 < Int32.ofNat mn; rw [i32_lt (by omega) (by omega)]; exact d), Nat.max_eq_left (by omega)]; rfl
  have g3 := m_192 (x := sm) (y := max 1 mn) hsm (by omega) (h := h.si 277 0 0)
  have hp : 0 < Nat.gcd sm (max 1 mn) := Nat.gcd_pos_of_pos_right _ (by omega)
  have hgl : Nat.gcd sm (max 1 mn) ≤ max 1 mn := Nat.gcd_le_right _ (by omega)
  have z : ¬ Int32.ofNat (Nat.gcd sm (max 1 mn)) = 0 := fun e => by
    have := (i32_z (by omega)).mp e
    omega
  have d1 : Int32.ofNat sm / Int32.ofNat (Nat.gcd sm (max 1 mn)) = Int32.ofNat (sm / Nat.gcd sm (max 1 mn)) := i32_div hsm (by omega)
  have d2 : Int32.ofNat (max 1 mn) / Int32.ofNat (Nat.gcd sm (max 1 mn)) = Int32.ofNat (max 1 mn / Nat.gcd sm (max 1 mn)) := i32_div (by omega) (by omega)
  by_cases b : j = 0
  · simp -implicitDefEqProofs only [D_55_0, k_55_0, D_55_14, k_55_14, D_55_48, k_55_48, D_55_49, k_55_49, R_55, v_aload_n, v_iload_n, v_callV2, aft_v, aft_n, g_if_ne, g_iconst, g_ireturn, g_getfield, sv_a, rf_s, v_callS3, g_istore_n, g_max, g_istore, g_if_eq, v_iload, g_goto, v_callS2, g_idiv, entL, getL, setL, kL_i, kL_r, isI_s, isR_s, isJ_s, gV_s, iV_i, cs0, cs1, cs2, cs3, cs4, dn_nil, kd_si, kd_sl, kd_sw, mr_si, mr_sl, mr_sw, ml_si, ml_sw, mi_sl, mk_277 H, mk_278 H, mk_279 H, mk_280 H, mk_281 H, mk_282 H, mk_283 H, mk_284 H, mk_285 H, mk_286 H, mk_287 H, mk_288 H, mk_289 H, mr_1 H, mr_11 H, mr_12 H, mr_13 H, mr_14 H, mr_15 H, mr_16 H, mr_17 H, mr_18 H, mr_19 H, mr_24 H, mr_25 H, m_154 H, c, m_138y H hl, ↓if_neg z_1, if_neg z_1, g1, g2, mx, g3, ↓if_pos b, if_pos b, ↓if_neg z, if_neg z, d1, retX_int]
  · simp -implicitDefEqProofs only [D_55_0, k_55_0, D_55_14, k_55_14, D_55_48, k_55_48, D_55_49, k_55_49, R_55, v_aload_n, v_iload_n, v_callV2, aft_v, aft_n, g_if_ne, g_iconst, g_ireturn, g_getfield, sv_a, rf_s, v_callS3, g_istore_n, g_max, g_istore, g_if_eq, v_iload, g_goto, v_callS2, g_idiv, entL, getL, setL, kL_i, kL_r, isI_s, isR_s, isJ_s, gV_s, iV_i, cs0, cs1, cs2, cs3, cs4, dn_nil, kd_si, kd_sl, kd_sw, mr_si, mr_sl, mr_sw, ml_si, ml_sw, mi_sl, mk_277 H, mk_278 H, mk_279 H, mk_280 H, mk_281 H, mk_282 H, mk_283 H, mk_284 H, mk_285 H, mk_286 H, mk_287 H, mk_288 H, mk_289 H, mr_1 H, mr_11 H, mr_12 H, mr_13 H, mr_14 H, mr_15 H, mr_16 H, mr_17 H, mr_18 H, mr_19 H, mr_24 H, mr_25 H, m_154 H, c, m_138y H hl, ↓if_neg z_1, if_neg z_1, g1, g2, mx, g3, ↓if_neg b, if_neg b, ↓if_neg z, if_neg z, d2, retX_int]
-- the class's way to it
theorem R_281 : PG.2.1 281 = (some .int) := rfl
def cdF (t n : Nat) : Nat → Nat
  | 0 => 1
  | d + 1 => if 1 < d + 1 ∧ n % (d + 1) = 0 ∧ t % (d + 1) = 0 then d + 1 else cdF t n d
theorem l_281 {t n : Nat} (ht : t < 2147483648) (hn : n < 2147483648) {h : Mm} : ∀ (d : Nat) (tl : Lc), d < 2147483648 → dB PG 281 2 (some (.int (Int32.ofNat t)) :: some (.int (Int32.ofNat n)) :: some (.int (Int32.ofNat d)) :: tl) [] h = some (.inl (some (.int (Int32.ofNat (cdF t n d)))), h) := by
  intro d
  induction d with
  | zero =>
    intro tl hd
    have e : Int32.ofNat 0 ≤ 1 := by decide
    rw [D_281_2]
    simp -implicitDefEqProofs only [D_281_0, k_281_0, k_281_2, D_281_21, k_281_21, D_281_27, k_281_27, R_281, v_iload_n, g_istore_n, g_iconst, g_icmp_le, g_irem, g_if_ne, g_ireturn, v_iinc, g_goto, entL, getL, setL, kL_i, kL_r, isI_s, isR_s, isJ_s, gV_s, iV_i, cs0, cs1, cs2, cs3, cs4, dn_nil, kd_si, kd_sl, kd_sw, mr_si, mr_sl, mr_sw, ml_si, ml_sw, mi_sl, ↓if_pos e, if_pos e, retX_int]
    rfl
  | succ d ih =>
    intro tl hd
    rw [D_281_2]
    unfold cdF
    by_cases c0 : 1 < d + 1
    · have e : ¬ Int32.ofNat (d + 1) ≤ 1 := by
        show ¬ Int32.ofNat (d + 1) ≤ Int32.ofNat 1
        rw [i32_le (by omega) (by omega)]; omega
      have z : ¬ Int32.ofNat (d + 1) = 0 := fun q => by
        have := (i32_z (by omega)).mp q
        omega
      have s1 : Int32.ofNat (d + 1) + -1 = Int32.ofNat d := by
        rw [← i32_add (a := d) (b := 1)]
        show Int32.ofNat d + 1 + -1 = Int32.ofNat d
        rw [Int32.add_assoc, show (1 : Int32) + -1 = 0 from by decide, Int32.add_zero]
      have r1 := i32_rem (a := n) (b := d + 1) hn (by omega)
      have r2 := i32_rem (a := t) (b := d + 1) ht (by omega)
      by_cases c1 : n % (d + 1) = 0
      · have q1 : Int32.ofNat (n % (d + 1)) = 0 := by rw [c1]; rfl
        by_cases c2 : t % (d + 1) = 0
        · have q2 : Int32.ofNat (t % (d + 1)) = 0 := by rw [c2]; rfl
          rw [if_pos ⟨c0, c1, c2⟩]
          simp -implicitDefEqProofs only [D_281_0, k_281_0, k_281_2, D_281_21, k_281_21, D_281_27, k_281_27, R_281, v_iload_n, g_istore_n, g_iconst, g_icmp_le, g_irem, g_if_ne, g_ireturn, v_iinc, g_goto, entL, getL, setL, kL_i, kL_r, isI_s, isR_s, isJ_s, gV_s, iV_i, cs0, cs1, cs2, cs3, cs4, dn_nil, kd_si, kd_sl, kd_sw, mr_si, mr_sl, mr_sw, ml_si, ml_sw, mi_sl, ↓if_neg e, if_neg e, ↓if_neg z, if_neg z, r1, r2, q1, q2, ↓if_true, if_true, retX_int]
        · have q2 : ¬ Int32.ofNat (t % (d + 1)) = 0 := fun q => c2 ((i32_z (Nat.lt_of_le_of_lt (Nat.mod_le t (d + 1)) ht)).mp q)
          rw [if_neg (fun q => c2 q.2.2), ← ih tl (by omega)]
          simp -implicitDefEqProofs only [D_281_0, k_281_0, k_281_2, D_281_21, k_281_21, D_281_27, k_281_27, R_281, v_iload_n, g_istore_n, g_iconst, g_icmp_le, g_irem, g_if_ne, g_ireturn, v_iinc, g_goto, entL, getL, setL, kL_i, kL_r, isI_s, isR_s, isJ_s, gV_s, iV_i, cs0, cs1, cs2, cs3, cs4, dn_nil, kd_si, kd_sl, kd_sw, mr_si, mr_sl, mr_sw, ml_si, ml_sw, mi_sl, ↓if_neg e, if_neg e, ↓if_neg z, if_neg z, r1, r2, q1, ↓if_neg q2, if_neg q2, ↓if_true, if_true, s1]
      · have q1 : ¬ Int32.ofNat (n % (d + 1)) = 0 := fun q => c1 ((i32_z (Nat.lt_of_le_of_lt (Nat.mod_le n (d + 1)) hn)).mp q)
        rw [if_neg (fun q => c1 q.2.1), ← ih tl (by omega)]
        simp -implicitDefEqProofs only [D_281_0, k_281_0, k_281_2, D_281_21, k_281_21, D_281_27, k_281_27, R_281, v_iload_n, g_istore_n, g_iconst, g_icmp_le, g_irem, g_if_ne, g_ireturn, v_iinc, g_goto, entL, getL, setL, kL_i, kL_r, isI_s, isR_s, isJ_s, gV_s, iV_i, cs0, cs1, cs2, cs3, cs4, dn_nil, kd_si, kd_sl, kd_sw, mr_si, mr_sl, mr_sw, ml_si, ml_sw, mi_sl, ↓if_neg e, if_neg e, ↓if_neg z, if_neg z, r1, ↓if_neg q1, if_neg q1, s1]
    · obtain rfl : d = 0 := by omega
      have e : Int32.ofNat (0 + 1) ≤ 1 := by decide
      rw [if_neg (fun q => c0 q.1)]
      simp -implicitDefEqProofs only [D_281_0, k_281_0, k_281_2, D_281_21, k_281_21, D_281_27, k_281_27, R_281, v_iload_n, g_istore_n, g_iconst, g_icmp_le, g_irem, g_if_ne, g_ireturn, v_iinc, g_goto, entL, getL, setL, kL_i, kL_r, isI_s, isR_s, isJ_s, gV_s, iV_i, cs0, cs1, cs2, cs3, cs4, dn_nil, kd_si, kd_sl, kd_sw, mr_si, mr_sl, mr_sw, ml_si, ml_sw, mi_sl, ↓if_pos e, if_pos e, retX_int]
      rfl
theorem m_281 {t n : Nat} (ht : t < 2147483648) (hn : n < 2147483648) {h : Mm} : dM PG 281 [.int (Int32.ofNat t), .int (Int32.ofNat n)] h = some (.inl (some (.int (Int32.ofNat (cdF t n n)))), h) := by
  rw [dM_of (Nat.le_of_ble_eq_true rfl)]
  simp -implicitDefEqProofs only [D_281_0, k_281_0, v_iload_n, g_istore_n, entL, getL, setL, kL_i, kL_r, isI_s, isR_s, isJ_s, gV_s, iV_i, cs0, cs1, cs2, cs3, cs4, dn_nil, kd_si, kd_sl, kd_sw, mr_si, mr_sl, mr_sw, ml_si, ml_sw, mi_sl]
  exact l_281 ht hn n _ hn
theorem cdF_gcd {t n : Nat} (hn : 0 < n) : ∀ d, Nat.gcd t n ≤ d → cdF t n d = Nat.gcd t n := by
  intro d
  have hg : 0 < Nat.gcd t n := Nat.gcd_pos_of_pos_right _ hn
  induction d with
  | zero => intro h; omega
  | succ d ih =>
    intro h
    unfold cdF
    by_cases c : 1 < d + 1 ∧ n % (d + 1) = 0 ∧ t % (d + 1) = 0
    · rw [if_pos c]
      have h1 : d + 1 ∣ Nat.gcd t n := Nat.dvd_gcd (Nat.dvd_of_mod_eq_zero c.2.2) (Nat.dvd_of_mod_eq_zero c.2.1)
      have := Nat.le_of_dvd hg h1
      omega
    · rw [if_neg c]
      by_cases e : Nat.gcd t n = d + 1
      · by_cases e1 : d = 0
        · subst e1
          rw [e]; rfl
        · exfalso
          refine c ⟨by omega, Nat.mod_eq_zero_of_dvd ?_, Nat.mod_eq_zero_of_dvd ?_⟩
          · rw [← e]; exact Nat.gcd_dvd_right t n
          · rw [← e]; exact Nat.gcd_dvd_left t n
      · exact ih (by omega)
theorem R_191 : PG.2.1 191 = (some .int) := rfl
theorem x_191 {E : String} : PG.2.2.1 191 E = none := rfl
theorem m_191n {i j : Int32} {u d b c : Nat} {h : Mm} (G : GO h u d b c) (U : SU h u) (hl : h.mi 200 4 = 0) : dM PG 191 [.ref 200, .int i, .int j] h = some (.inr (exN 0), h.thr) := by
  rw [dM_of (Nat.le_of_ble_eq_true rfl)]
  simp -implicitDefEqProofs only [D_191_0, k_191_0, v_aload_n, v_iload_n, v_callV2, aft_v, aft_n, g_getfield, sv_o, rf_s, g_istore_n, g_istore, g_if_eq, v_iload, g_if_ne, entL, getL, setL, kL_i, kL_r, isI_s, isR_s, isJ_s, gV_s, iV_i, cs0, cs1, cs2, cs3, cs4, dn_nil, kd_si, kd_sl, kd_sw, mr_si, mr_sl, mr_sw, ml_si, ml_sw, mi_sl, go_k G, m_250n G U hl, aft_x (x_191)]
theorem m_191x {i j : Int32} {u d b c : Nat} {h : Mm} (G : GO h u d b c) (U : SU h u) (hl : ¬ h.mi 200 4 = 0) (hi : i < 0 ∨ ¬ i < h.mi u 11) : dM PG 191 [.ref 200, .int i, .int j] h = some (.inr (exN 1), h.thr) := by
  rw [dM_of (Nat.le_of_ble_eq_true rfl)]
  simp -implicitDefEqProofs only [D_191_0, k_191_0, v_aload_n, v_iload_n, v_callV2, aft_v, aft_n, g_getfield, sv_o, rf_s, g_istore_n, g_istore, g_if_eq, v_iload, g_if_ne, entL, getL, setL, kL_i, kL_r, isI_s, isR_s, isJ_s, gV_s, iV_i, cs0, cs1, cs2, cs3, cs4, dn_nil, kd_si, kd_sl, kd_sw, mr_si, mr_sl, mr_sw, ml_si, ml_sw, mi_sl, go_k G, m_250x G U hl hi, aft_x (x_191)]
theorem m_191y {i j : Int32} {n sm mn : Nat} (hn : n ≤ 80) {u d b c : Nat} {h : Mm} (G : GO h u d b c) (U : SU h u) (T : ST h b) (hl : ¬ h.mi 200 4 = 0) (a : ¬ i < 0) (e : i < h.mi u 11) (h13 : h.mi (b + 13) 0 = Int32.ofNat n) (hs : fl (exO (rowsAt h b) i) n 0 0 = Int32.ofNat sm) (hsm : sm < 2147483648) (hm : fl (cnO (rowsAt h b) i) n 0 0 = Int32.ofNat mn) (hmn : mn ≤ 80) (h0 : mn = 0 → sm = 0) : dM PG 191 [.ref 200, .int i, .int j] h = some (.inl (some (.int (Int32.ofNat ((if j = 0 then sm else max 1 mn) / Nat.gcd sm (max 1 mn))))), h) := by
  rw [dM_of (Nat.le_of_ble_eq_true rfl)]
  have g1 := m_280 (x := i) hn T (R := rowsAt h b) h13
  rw [sb_id, hs] at g1
  have g2 := m_279 (x := i) hn T (R := rowsAt h b) h13
  rw [sb_id, hm] at g2
  by_cases c1 : sm = 0
  · subst c1
    have z : Int32.ofNat 0 = 0 := rfl
    rw [Nat.gcd_zero_left]
    by_cases bj : j = 0
    · rw [if_pos bj, Nat.zero_div, z]
      simp -implicitDefEqProofs only [D_191_0, k_191_0, D_191_39, k_191_39, D_191_47, k_191_47, D_191_48, k_191_48, D_191_49, k_191_49, D_191_69, k_191_69, D_191_73, k_191_73, R_191, v_aload_n, v_iload_n, v_callV2, aft_v, aft_n, g_getfield, sv_o, rf_s, g_istore_n, g_istore, g_if_eq, v_iload, g_if_ne, g_iconst, g_goto, g_ireturn, v_callS2, g_idiv, entL, getL, setL, kL_i, kL_r, isI_s, isR_s, isJ_s, gV_s, iV_i, cs0, cs1, cs2, cs3, cs4, dn_nil, kd_si, kd_sl, kd_sw, mr_si, mr_sl, mr_sw, ml_si, ml_sw, mi_sl, go_k G, go_r0 G, go_r5 G, go_r6 G, go_r7 G, go_r8 G, go_r10 G, go_r12 G, go_r13 G, go_r14 G, go_k201 G, go_k273 G, go_k274 G, go_k276 G, st_k T, st_r6 T, st_r7 T, st_r8 T, st_r9 T, st_r10 T, st_r11 T, st_r12 T, st_r13 T, st_k1 T, st_k2 T, st_k3 T, st_k4 T, st_k5 T, st_k6 T, st_ki T, st_i2 T, st_i3 T, st_i4 T, st_i5 T, st_i6 T, st_k8 T, st_k9 T, st_k10 T, st_k11 T, st_k12 T, st_kb T, st_b2 T, st_b3 T, st_b4 T, st_b5 T, st_b6 T, st_k14 T, st_k15 T, st_k16 T, st_k17 T, st_k18 T, m_250y G U hl a e, g1, g2, z, ↓if_true, if_true, ↓if_pos bj, if_pos bj, retX_int]
    · rw [if_neg bj, Nat.div_self (by omega), show Int32.ofNat 1 = 1 from rfl]
      simp -implicitDefEqProofs only [D_191_0, k_191_0, D_191_39, k_191_39, D_191_47, k_191_47, D_191_48, k_191_48, D_191_49, k_191_49, D_191_69, k_191_69, D_191_73, k_191_73, R_191, v_aload_n, v_iload_n, v_callV2, aft_v, aft_n, g_getfield, sv_o, rf_s, g_istore_n, g_istore, g_if_eq, v_iload, g_if_ne, g_iconst, g_goto, g_ireturn, v_callS2, g_idiv, entL, getL, setL, kL_i, kL_r, isI_s, isR_s, isJ_s, gV_s, iV_i, cs0, cs1, cs2, cs3, cs4, dn_nil, kd_si, kd_sl, kd_sw, mr_si, mr_sl, mr_sw, ml_si, ml_sw, mi_sl, go_k G, go_r0 G, go_r5 G, go_r6 G, go_r7 G, go_r8 G, go_r10 G, go_r12 G, go_r13 G, go_r14 G, go_k201 G, go_k273 G, go_k274 G, go_k276 G, st_k T, st_r6 T, st_r7 T, st_r8 T, st_r9 T, st_r10 T, st_r11 T, st_r12 T, st_r13 T, st_k1 T, st_k2 T, st_k3 T, st_k4 T, st_k5 T, st_k6 T, st_ki T, st_i2 T, st_i3 T, st_i4 T, st_i5 T, st_i6 T, st_k8 T, st_k9 T, st_k10 T, st_k11 T, st_k12 T, st_kb T, st_b2 T, st_b3 T, st_b4 T, st_b5 T, st_b6 T, st_k14 T, st_k15 T, st_k16 T, st_k17 T, st_k18 T, m_250y G U hl a e, g1, g2, z, ↓if_true, if_true, ↓if_neg bj, if_neg bj, retX_int]
  · have c2 : ¬ mn = 0 := fun q => c1 (h0 q)
    have z1 : ¬ Int32.ofNat sm = 0 := fun q => c1 ((i32_z hsm).mp q)
    have z2 : ¬ Int32.ofNat mn = 0 := fun q => c2 ((i32_z (by omega)).mp q)
    rw [Nat.max_eq_right (by omega)]
    have hgl : Nat.gcd sm mn ≤ mn := Nat.gcd_le_right _ (by omega)
    have hp : 0 < Nat.gcd sm mn := Nat.gcd_pos_of_pos_right _ (by omega)
    have g3 := m_281 (t := sm) (n := mn) hsm (by omega) (h := h)
    rw [cdF_gcd (by omega) mn hgl] at g3
    have z3 : ¬ Int32.ofNat (Nat.gcd sm mn) = 0 := fun q => by
      have := (i32_z (by omega)).mp q
      omega
    have d1 : Int32.ofNat sm / Int32.ofNat (Nat.gcd sm mn) = Int32.ofNat (sm / Nat.gcd sm mn) := i32_div hsm (by omega)
    have d2 : Int32.ofNat mn / Int32.ofNat (Nat.gcd sm mn) = Int32.ofNat (mn / Nat.gcd sm mn) := i32_div (by omega) (by omega)
    by_cases bj : j = 0
    · simp -implicitDefEqProofs only [D_191_0, k_191_0, D_191_39, k_191_39, D_191_47, k_191_47, D_191_48, k_191_48, D_191_49, k_191_49, D_191_69, k_191_69, D_191_73, k_191_73, R_191, v_aload_n, v_iload_n, v_callV2, aft_v, aft_n, g_getfield, sv_o, rf_s, g_istore_n, g_istore, g_if_eq, v_iload, g_if_ne, g_iconst, g_goto, g_ireturn, v_callS2, g_idiv, entL, getL, setL, kL_i, kL_r, isI_s, isR_s, isJ_s, gV_s, iV_i, cs0, cs1, cs2, cs3, cs4, dn_nil, kd_si, kd_sl, kd_sw, mr_si, mr_sl, mr_sw, ml_si, ml_sw, mi_sl, go_k G, go_r0 G, go_r5 G, go_r6 G, go_r7 G, go_r8 G, go_r10 G, go_r12 G, go_r13 G, go_r14 G, go_k201 G, go_k273 G, go_k274 G, go_k276 G, st_k T, st_r6 T, st_r7 T, st_r8 T, st_r9 T, st_r10 T, st_r11 T, st_r12 T, st_r13 T, st_k1 T, st_k2 T, st_k3 T, st_k4 T, st_k5 T, st_k6 T, st_ki T, st_i2 T, st_i3 T, st_i4 T, st_i5 T, st_i6 T, st_k8 T, st_k9 T, st_k10 T, st_k11 T, st_k12 T, st_kb T, st_b2 T, st_b3 T, st_b4 T, st_b5 T, st_b6 T, st_k14 T, st_k15 T, st_k16 T, st_k17 T, st_k18 T, m_250y G U hl a e, g1, g2, g3, ↓if_neg z1, if_neg z1, ↓if_neg z2, if_neg z2, ↓if_neg z3, if_neg z3, ↓if_pos bj, if_pos bj, d1, retX_int]
    · simp -implicitDefEqProofs only [D_191_0, k_191_0, D_191_39, k_191_39, D_191_47, k_191_47, D_191_48, k_191_48, D_191_49, k_191_49, D_191_69, k_191_69, D_191_73, k_191_73, R_191, v_aload_n, v_iload_n, v_callV2, aft_v, aft_n, g_getfield, sv_o, rf_s, g_istore_n, g_istore, g_if_eq, v_iload, g_if_ne, g_iconst, g_goto, g_ireturn, v_callS2, g_idiv, entL, getL, setL, kL_i, kL_r, isI_s, isR_s, isJ_s, gV_s, iV_i, cs0, cs1, cs2, cs3, cs4, dn_nil, kd_si, kd_sl, kd_sw, mr_si, mr_sl, mr_sw, ml_si, ml_sw, mi_sl, go_k G, go_r0 G, go_r5 G, go_r6 G, go_r7 G, go_r8 G, go_r10 G, go_r12 G, go_r13 G, go_r14 G, go_k201 G, go_k273 G, go_k274 G, go_k276 G, st_k T, st_r6 T, st_r7 T, st_r8 T, st_r9 T, st_r10 T, st_r11 T, st_r12 T, st_r13 T, st_k1 T, st_k2 T, st_k3 T, st_k4 T, st_k5 T, st_k6 T, st_ki T, st_i2 T, st_i3 T, st_i4 T, st_i5 T, st_i6 T, st_k8 T, st_k9 T, st_k10 T, st_k11 T, st_k12 T, st_kb T, st_b2 T, st_b3 T, st_b4 T, st_b5 T, st_b6 T, st_k14 T, st_k15 T, st_k16 T, st_k17 T, st_k18 T, m_250y G U hl a e, g1, g2, g3, ↓if_neg z1, if_neg z1, ↓if_neg z2, if_neg z2, ↓if_neg z3, if_neg z3, ↓if_neg bj, if_neg bj, d2, retX_int]
