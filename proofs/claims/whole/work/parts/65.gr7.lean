-- ===== the grader: a tick =====
def gtA (R : Nat → Nat → Int32) : Nat → Nat → Int32 := zu2 R 0 0 (R 0 0 + 1)
def gtB (me : Int32) (R : Nat → Nat → Int32) : Nat → Nat → Int32 := zu2 (gtA R) 0 3 (gtA R 0 3 - (gtA R 0 3 * me + 99) / 100)
def gtC (me mk sto : Int32) (R : Nat → Nat → Int32) : Nat → Nat → Int32 := zu2 (gtB me R) 0 3 (if sto < gtB me R 0 3 + mk then sto else gtB me R 0 3 + mk)
theorem gtC_o {me mk sto : Int32} {R : Nat → Nat → Int32} {o : Nat} (ho : o ≠ 0) : gtC me mk sto R o = R o := (z2_o ho).trans ((z2_o ho).trans (z2_o ho))
def gtI (me mk sto per : Int32) (R : Nat → Nat → Int32) (n q : Nat) : Nat → Nat → Int32 := gcGo per (n - q) q (gtC me mk sto R)
theorem R_276 : PG.2.1 276 = none := rfl
theorem m_276s {b u n q ns : Nat} (hub : u + 7 ≤ b) (hn : n ≤ 80) (hq : q ≤ n) (hns : ns ≤ 4) {h : Mm} (T : ST h b) (U : SU h u) {R : Nat → Nat → Int32} (h0 : R 13 0 = Int32.ofNat n) (h1 : R 13 1 = Int32.ofNat q) (hs : h.mi u 8 = Int32.ofNat ns) (hst : gsGo (h.mi (u + 1)) (h.mi (u + 2)) (gtI (h.mi u 7) (h.mi u 4) (h.mi u 5) (h.mi u 3) R n q 0 0) ns 0 = true) : dM PG 276 [.ref b, .ref u] (h.sb b R) = some (.inl none, h.sb b (gtI (h.mi u 7) (h.mi u 4) (h.mi u 5) (h.mi u 3) R n q)) := by
  rw [dM_of (Nat.le_of_ble_eq_true rfl)]
  have z : ¬ (100 : Int32) = 0 := by decide
  have eu : ∀ R', (h.sb b R').mi u = h.mi u := fun R' => mi_sbo (by omega)
  have eu1 : ∀ R', (h.sb b R').mi (u + 1) = h.mi (u + 1) := fun R' => mi_sbo (by omega)
  have eu2 : ∀ R', (h.sb b R').mi (u + 2) = h.mi (u + 2) := fun R' => mi_sbo (by omega)
  have g1 := m_319 hub hn hq T U (R := gtC (h.mi u 7) (h.mi u 4) (h.mi u 5) R) (by rw [gtC_o (by decide), h0]) (by rw [gtC_o (by decide), h1])
  have g2 := m_283 (x := gtI (h.mi u 7) (h.mi u 4) (h.mi u 5) (h.mi u 3) R n q 0 0) hns (SU_sb (b := b) (R := gtI (h.mi u 7) (h.mi u 4) (h.mi u 5) (h.mi u 3) R n q) U) (by rw [eu, hs])
  rw [eu1, eu2, hst] at g2
  unfold gtI at g2 ⊢
  unfold gtC at g1 g2 ⊢
  unfold gtB at g1 g2 ⊢
  unfold gtA at g1 g2 ⊢
  simp -implicitDefEqProofs only [D_276_0, k_276_0, D_276_75, k_276_75, R_276, v_aload_n, g_dup_i, g_dup_r, g_getfield, sv_i, rf_s, g_iconst, g_iadd, g_put_i, g_imul, g_bipush, g_idiv, g_isub, g_min, v_callV2, aft_v, aft_n, g_if_ne, g_return, entL, getL, setL, kL_i, kL_r, isI_s, isR_s, isJ_s, gV_s, iV_i, cs0, cs1, cs2, cs3, cs4, dn_nil, kd_si, kd_sl, kd_sw, mr_si, mr_sl, mr_sw, ml_si, ml_sw, mi_sl, kd_sb, mr_sb, bm_0, bs_0, eu, st_k T, su_k U, if_neg z, g1, g2, b2i_1, if_neg z_1]
theorem m_276h {b u n q ns : Nat} (hub : u + 7 ≤ b) (hn : n ≤ 80) (hq : q ≤ n) (hns : ns ≤ 4) {h : Mm} (T : ST h b) (U : SU h u) {R : Nat → Nat → Int32} (h0 : R 13 0 = Int32.ofNat n) (h1 : R 13 1 = Int32.ofNat q) (hs : h.mi u 8 = Int32.ofNat ns) (hst : gsGo (h.mi (u + 1)) (h.mi (u + 2)) (gtI (h.mi u 7) (h.mi u 4) (h.mi u 5) (h.mi u 3) R n q 0 0) ns 0 = false) {R2 : Nat → Nat → Int32} (hh : dM PG 320 [.ref b, .ref u] (h.sb b (gtI (h.mi u 7) (h.mi u 4) (h.mi u 5) (h.mi u 3) R n q)) = some (.inl none, h.sb b R2)) : dM PG 276 [.ref b, .ref u] (h.sb b R) = some (.inl none, h.sb b R2) := by
  rw [dM_of (Nat.le_of_ble_eq_true rfl)]
  have z : ¬ (100 : Int32) = 0 := by decide
  have eu : ∀ R', (h.sb b R').mi u = h.mi u := fun R' => mi_sbo (by omega)
  have eu1 : ∀ R', (h.sb b R').mi (u + 1) = h.mi (u + 1) := fun R' => mi_sbo (by omega)
  have eu2 : ∀ R', (h.sb b R').mi (u + 2) = h.mi (u + 2) := fun R' => mi_sbo (by omega)
  have g1 := m_319 hub hn hq T U (R := gtC (h.mi u 7) (h.mi u 4) (h.mi u 5) R) (by rw [gtC_o (by decide), h0]) (by rw [gtC_o (by decide), h1])
  have g2 := m_283 (x := gtI (h.mi u 7) (h.mi u 4) (h.mi u 5) (h.mi u 3) R n q 0 0) hns (SU_sb (b := b) (R := gtI (h.mi u 7) (h.mi u 4) (h.mi u 5) (h.mi u 3) R n q) U) (by rw [eu, hs])
  rw [eu1, eu2, hst] at g2
  unfold gtI at g2 hh
  unfold gtC at g1 g2 hh
  unfold gtB at g1 g2 hh
  unfold gtA at g1 g2 hh
  simp -implicitDefEqProofs only [D_276_0, k_276_0, D_276_75, k_276_75, R_276, v_aload_n, g_dup_i, g_dup_r, g_getfield, sv_i, rf_s, g_iconst, g_iadd, g_put_i, g_imul, g_bipush, g_idiv, g_isub, g_min, v_callV2, aft_v, aft_n, g_if_ne, g_return, entL, getL, setL, kL_i, kL_r, isI_s, isR_s, isJ_s, gV_s, iV_i, cs0, cs1, cs2, cs3, cs4, dn_nil, kd_si, kd_sl, kd_sw, mr_si, mr_sl, mr_sw, ml_si, ml_sw, mi_sl, kd_sb, mr_sb, bm_0, bs_0, eu, st_k T, su_k U, if_neg z, g1, g2, b2i_0, if_true, hh]
