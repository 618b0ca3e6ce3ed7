-- ===== the grader: many ticks =====
def it2 (F : (Nat → Nat → Int32) → (Nat → Nat → Int32)) : Nat → (Nat → Nat → Int32) → (Nat → Nat → Int32)
  | 0, R => R
  | n + 1, R => it2 F n (F R)
theorem R_268 : PG.2.1 268 = none := rfl
theorem l_268 {b u n : Nat} (hn : n < 2147483648) {h : Mm} (T : ST h b) {W : (Nat → Nat → Int32) → Prop} {F : (Nat → Nat → Int32) → (Nat → Nat → Int32)} (hF : ∀ R, W R → W (F R) ∧ dM PG 276 [.ref b, .ref u] (h.sb b R) = some (.inl none, h.sb b (F R))) : ∀ (d k : Nat) (R : Nat → Nat → Int32), k + d = n → W R → dB PG 268 2 [some (.ref b), some (.ref u), some (.int (Int32.ofNat n)), some (.int (Int32.ofNat k))] [] (h.sb b R) = some (.inl none, h.sb b (it2 F d R)) := by
  intro d
  induction d with
  | zero =>
    intro k R hk hW
    have e : Int32.ofNat n ≤ Int32.ofNat k := by rw [i32_le (by omega) (by omega)]; omega
    simp -implicitDefEqProofs only [D_268_2, k_268_2, D_268_18, k_268_18, R_268, v_iload_n, g_icmp_ge, v_aload_n, v_callV2, aft_v, aft_n, v_iinc, g_goto, g_return, entL, getL, setL, kL_i, kL_r, isI_s, isR_s, isJ_s, gV_s, iV_i, cs0, cs1, cs2, cs3, cs4, dn_nil, kd_si, kd_sl, kd_sw, mr_si, mr_sl, mr_sw, ml_si, ml_sw, mi_sl, if_pos e]
    rfl
  | succ d ih =>
    intro k R hk hW
    have e : ¬ Int32.ofNat n ≤ Int32.ofNat k := by rw [i32_le (by omega) (by omega)]; omega
    have s1 : Int32.ofNat k + 1 = Int32.ofNat (k + 1) := i32_add (b := 1)
    have z : it2 F (d + 1) R = it2 F d (F R) := rfl
    rw [z, ← ih (k + 1) (F R) (by omega) (hF R hW).1, D_268_2]
    simp -implicitDefEqProofs only [k_268_2, v_iload_n, g_icmp_ge, v_aload_n, v_callV2, aft_v, aft_n, v_iinc, g_goto, entL, getL, setL, kL_i, kL_r, isI_s, isR_s, isJ_s, gV_s, iV_i, cs0, cs1, cs2, cs3, cs4, dn_nil, kd_si, kd_sl, kd_sw, mr_si, mr_sl, mr_sw, ml_si, ml_sw, mi_sl, kd_sb, st_k T, if_neg e, (hF R hW).2, s1]
theorem m_268 {b u n : Nat} (hn : n < 2147483648) {h : Mm} (T : ST h b) {W : (Nat → Nat → Int32) → Prop} {F : (Nat → Nat → Int32) → (Nat → Nat → Int32)} (hF : ∀ R, W R → W (F R) ∧ dM PG 276 [.ref b, .ref u] (h.sb b R) = some (.inl none, h.sb b (F R))) {R : Nat → Nat → Int32} (hW : W R) : dM PG 268 [.ref b, .ref u, .int (Int32.ofNat n)] (h.sb b R) = some (.inl none, h.sb b (it2 F n R)) := by
  rw [dM_of (Nat.le_of_ble_eq_true rfl)]
  simp -implicitDefEqProofs only [D_268_0, k_268_0, g_iconst, g_istore_n, entL, getL, setL, kL_i, kL_r, isI_s, isR_s, isJ_s, gV_s, iV_i, cs0, cs1, cs2, cs3, cs4, dn_nil, kd_si, kd_sl, kd_sw, mr_si, mr_sl, mr_sw, ml_si, ml_sw, mi_sl]
  exact l_268 hn T hF n 0 R (by omega) hW
