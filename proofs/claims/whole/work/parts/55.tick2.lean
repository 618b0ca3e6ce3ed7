-- ===== the model: a tick, many ticks =====
theorem ix_25' : (25 : Int32).toNatClampNeg = 25 := by decide
def tkA (S : Nat → Int32) : Nat → Int32 := zu S 0 (S 0 + 1)
def tkB (pl S : Nat → Int32) : Nat → Int32 := zu (tkA S) 3 (tkA S 3 - (tkA S 3 * pl 25 + 99) / 100)
def tkC (pl S : Nat → Int32) : Nat → Int32 := zu (tkB pl S) 3 (if tkB pl S 3 + pl 4 < pl 5 then tkB pl S 3 + pl 4 else pl 5)
def tkI (pl S : Nat → Int32) (n : Nat) : Nat → Int32 := icGo (pl 3) n 81 (tkC pl S)
theorem tkC_ne {pl S : Nat → Int32} {j : Nat} (h0 : j ≠ 0) (h3 : j ≠ 3) : tkC pl S j = S j := (zu_ne h3).trans ((zu_ne h3).trans (zu_ne h0))
theorem tkC_0 {pl S : Nat → Int32} : tkC pl S 0 = S 0 + 1 := (zu_ne (by decide)).trans ((zu_ne (by decide)).trans zu_same)
theorem R_187 : PG.2.1 187 = none := rfl
theorem m_187s {s n ns : Nat} (hn : n ≤ 80) (hns : ns ≤ 4) {h : Mm} (H : MO h) (h7 : s ≠ 279) (hk : h.kd s = some (.inr (.int, 1168))) (h8 : h.mi s 8 = Int32.ofNat n) (h0 : h.mi s 0 + 1 ≠ -1) (hs : h.mi 279 16 = Int32.ofNat ns) (hst : stGo (h.mi 279) (tkI (h.mi 279) (h.mi s) n 0) ns 0 = true) : dM PG 187 [.ref 277, .ref s] h = some (.inl none, h.sw s (tkI (h.mi 279) (h.mi s) n)) := by
  rw [dM_of (Nat.le_of_ble_eq_true rfl)]
  have h72 : (279 : Nat) ≠ s := fun e => h7 e.symm
  have z : ¬ (100 : Int32) = 0 := by decide
  have g1 := m_277 (h := h.sw s (tkC (h.mi 279) (h.mi s))) hn H h7 hk (by rw [mi_sw, tkC_ne (by decide) (by decide), h8]) (by rw [mi_sw, tkC_0]; exact h0)
  rw [mi_sw, mi_swo h72, sw_sw] at g1
  have g2 := m_204 (h := h.sw s (tkI (h.mi 279) (h.mi s) n)) (t := tkI (h.mi 279) (h.mi s) n 0) hns H (by rw [mi_swo h72, hs])
  rw [mi_swo h72, hst] at g2
  unfold tkI at g2 ⊢
  unfold tkC at g1 g2 ⊢
  unfold tkB at g1 g2 ⊢
  unfold tkA at g1 g2 ⊢
  simp -implicitDefEqProofs only [D_187_0, k_187_0, D_187_72, k_187_72, R_187, v_aload_n, g_iconst, g_dup2, v_iaload, inI_0, g_iadd, v_iastore, wrI_0, g_getfield, sv_a, rf_s, g_bipush, g_imul, g_idiv, g_isub, g_min, v_callV2, aft_v, aft_n, g_if_ne, g_return, entL, getL, setL, kL_i, kL_r, isI_s, isR_s, isJ_s, gV_s, iV_i, cs0, cs1, cs2, cs3, cs4, dn_nil, kd_si, kd_sl, kd_sw, mr_si, mr_sl, mr_sw, ml_si, ml_sw, mi_sl, mk_277 H, mr_11 H, mk_279 H, hk, in_0, ix_0, in_3, ix_3, ip_25, ix_25, ip_5, ix_5, ip_4, ix_4, si_sw (a := s), sw_sw, mi_sw, mi_swo h72, if_neg z, g1, g2, b2i_1, if_neg z_1]
theorem m_187h {s n ns : Nat} (hn : n ≤ 80) (hns : ns ≤ 4) {h : Mm} (H : MO h) (h7 : s ≠ 279) (hk : h.kd s = some (.inr (.int, 1168))) (h8 : h.mi s 8 = Int32.ofNat n) (h0 : h.mi s 0 + 1 ≠ -1) (hs : h.mi 279 16 = Int32.ofNat ns) (hst : stGo (h.mi 279) (tkI (h.mi 279) (h.mi s) n 0) ns 0 = false) {S5 : Nat → Int32} (hh : dM PG 278 [.ref 277, .ref s] (h.sw s (tkI (h.mi 279) (h.mi s) n)) = some (.inl none, h.sw s S5)) : dM PG 187 [.ref 277, .ref s] h = some (.inl none, h.sw s S5) := by
  rw [dM_of (Nat.le_of_ble_eq_true rfl)]
  have h72 : (279 : Nat) ≠ s := fun e => h7 e.symm
  have z : ¬ (100 : Int32) = 0 := by decide
  have g1 := m_277 (h := h.sw s (tkC (h.mi 279) (h.mi s))) hn H h7 hk (by rw [mi_sw, tkC_ne (by decide) (by decide), h8]) (by rw [mi_sw, tkC_0]; exact h0)
  rw [mi_sw, mi_swo h72, sw_sw] at g1
  have g2 := m_204 (h := h.sw s (tkI (h.mi 279) (h.mi s) n)) (t := tkI (h.mi 279) (h.mi s) n 0) hns H (by rw [mi_swo h72, hs])
  rw [mi_swo h72, hst] at g2
  unfold tkI at g2 hh
  unfold tkC at g1 g2 hh
  unfold tkB at g1 g2 hh
  unfold tkA at g1 g2 hh
  simp -implicitDefEqProofs only [D_187_0, k_187_0, D_187_72, k_187_72, R_187, v_aload_n, g_iconst, g_dup2, v_iaload, inI_0, g_iadd, v_iastore, wrI_0, g_getfield, sv_a, rf_s, g_bipush, g_imul, g_idiv, g_isub, g_min, v_callV2, aft_v, aft_n, g_if_ne, g_return, entL, getL, setL, kL_i, kL_r, isI_s, isR_s, isJ_s, gV_s, iV_i, cs0, cs1, cs2, cs3, cs4, dn_nil, kd_si, kd_sl, kd_sw, mr_si, mr_sl, mr_sw, ml_si, ml_sw, mi_sl, mk_277 H, mr_11 H, mk_279 H, hk, in_0, ix_0, in_3, ix_3, ip_25, ix_25, ip_5, ix_5, ip_4, ix_4, si_sw (a := s), sw_sw, mi_sw, mi_swo h72, if_neg z, g1, g2, b2i_0, if_true, hh]
-- many ticks: over any tick function on good rows
def it (F : (Nat → Int32) → (Nat → Int32)) : Nat → (Nat → Int32) → (Nat → Int32)
  | 0, S => S
  | n + 1, S => it F n (F S)
theorem R_176 : PG.2.1 176 = none := rfl
theorem l_176 {s n : Nat} (hn : n < 2147483648) {h : Mm} (H : MO h) {W : (Nat → Int32) → Prop} {F : (Nat → Int32) → (Nat → Int32)} (hF : ∀ S, W S → W (F S) ∧ dM PG 187 [.ref 277, .ref s] (h.sw s S) = some (.inl none, h.sw s (F S))) : ∀ (d k : Nat) (S : Nat → Int32), k + d = n → W S → dB PG 176 2 [some (.ref 277), some (.ref s), some (.int (Int32.ofNat n)), some (.int (Int32.ofNat k))] [] (h.sw s S) = some (.inl none, h.sw s (it F d S)) := by
  intro d
  induction d with
  | zero =>
    intro k S hk hW
    have e : Int32.ofNat n ≤ Int32.ofNat k := by rw [i32_le (by omega) (by omega)]; omega
    simp -implicitDefEqProofs only [D_176_2, k_176_2, D_176_18, k_176_18, R_176, v_iload_n, g_icmp_ge, v_aload_n, v_callV2, aft_v, aft_n, v_iinc, g_goto, g_return, entL, getL, setL, kL_i, kL_r, isI_s, isR_s, isJ_s, gV_s, iV_i, cs0, cs1, cs2, cs3, cs4, dn_nil, kd_si, kd_sl, kd_sw, mr_si, mr_sl, mr_sw, ml_si, ml_sw, mi_sl, if_pos e]
    rfl
  | succ d ih =>
    intro k S hk hW
    have e : ¬ Int32.ofNat n ≤ Int32.ofNat k := by rw [i32_le (by omega) (by omega)]; omega
    have s1 : Int32.ofNat k + 1 = Int32.ofNat (k + 1) := i32_add (b := 1)
    have z : it F (d + 1) S = it F d (F S) := rfl
    rw [z, ← ih (k + 1) (F S) (by omega) (hF S hW).1, D_176_2]
    simp -implicitDefEqProofs only [k_176_2, v_iload_n, g_icmp_ge, v_aload_n, v_callV2, aft_v, aft_n, v_iinc, g_goto, entL, getL, setL, kL_i, kL_r, isI_s, isR_s, isJ_s, gV_s, iV_i, cs0, cs1, cs2, cs3, cs4, dn_nil, kd_si, kd_sl, kd_sw, mr_si, mr_sl, mr_sw, ml_si, ml_sw, mi_sl, mk_277 H, if_neg e, (hF S hW).2, s1]
theorem m_176 {s n : Nat} (hn : n < 2147483648) {h : Mm} (H : MO h) {W : (Nat → Int32) → Prop} {F : (Nat → Int32) → (Nat → Int32)} (hF : ∀ S, W S → W (F S) ∧ dM PG 187 [.ref 277, .ref s] (h.sw s S) = some (.inl none, h.sw s (F S))) (hW : W (h.mi s)) : dM PG 176 [.ref 277, .ref s, .int (Int32.ofNat n)] h = some (.inl none, h.sw s (it F n (h.mi s))) := by
  rw [dM_of (Nat.le_of_ble_eq_true rfl)]
  have g := l_176 hn H hF n 0 (h.mi s) (by omega) hW
  rw [sw_id] at g
  simp -implicitDefEqProofs only [D_176_0, k_176_0, g_iconst, g_istore_n, entL, getL, setL, kL_i, kL_r, isI_s, isR_s, isJ_s, gV_s, iV_i, cs0, cs1, cs2, cs3, cs4, dn_nil, kd_si, kd_sl, kd_sw, mr_si, mr_sl, mr_sw, ml_si, ml_sw, mi_sl]
  exact g
theorem R_156 : PG.2.1 156 = (some .int) := rfl
theorem m_156 {x : Int32} {h : Mm} (H : MO h) : dM PG 156 [.ref 277, .int x] h = some (.inl (some (.int 0)), h.si 277 0 x) := by
  rw [dM_of (Nat.le_of_ble_eq_true rfl)]
  simp -implicitDefEqProofs only [D_156_0, k_156_0, R_156, v_aload_n, v_iload_n, g_put_i, g_iconst, g_ireturn, entL, getL, setL, kL_i, kL_r, isI_s, isR_s, isJ_s, gV_s, iV_i, cs0, cs1, cs2, cs3, cs4, dn_nil, kd_si, kd_sl, kd_sw, mr_si, mr_sl, mr_sw, ml_si, ml_sw, mi_sl, mk_277 H, retX_int]
theorem va_cpy_all {f t : Nat → Int32} : va_cpy f t 0 0 1168 = fun j => if j < 1168 then f j else t j := by
  funext j
  unfold va_cpy
  by_cases c : j < 1168
  · rw [if_pos (by omega), if_pos c]; congr 1; omega
  · rw [if_neg (by omega), if_neg c]
theorem R_182 : PG.2.1 182 = none := rfl
theorem m_182 {h : Mm} (H : MO h) : dM PG 182 [.ref 277] h = some (.inl none, h.sw 285 (va_cpy (h.mi 283) (h.mi 285) 0 0 1168)) := by
  rw [dM_of (Nat.le_of_ble_eq_true rfl)]
  have z : Int32.ofNat 0 = 0 := rfl
  have g := m_150 (p := 283) (q := 285) (a := 0) (w := 0) (h := h) (by decide) (by decide) (by decide) (by decide) (by decide) (mk_283 H) (mk_285 H)
  rw [z] at g
  simp -implicitDefEqProofs only [D_182_0, k_182_0, R_182, v_aload_n, g_getfield, sv_a, rf_s, g_iconst, v_callS4, aft_v, aft_n, g_return, entL, getL, setL, kL_i, kL_r, isI_s, isR_s, isJ_s, gV_s, iV_i, cs0, cs1, cs2, cs3, cs4, dn_nil, kd_si, kd_sl, kd_sw, mr_si, mr_sl, mr_sw, ml_si, ml_sw, mi_sl, mk_277 H, mr_15 H, mr_17 H, g]
