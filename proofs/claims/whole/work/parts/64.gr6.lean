-- ===== the grader: the next item is handled =====
def ghA (R : Nat → Nat → Int32) : Nat → Nat → Int32 := zu2 R 7 1 (R 7 1 + 1)
theorem ghA_o {R : Nat → Nat → Int32} {o : Nat} (ho : o ≠ 7) : ghA R o = R o := z2_o ho
def ghL (R : Nat → Nat → Int32) (k i : Nat) : Nat → Nat → Int32 := zu2 (ghA R) 4 k (R 4 k + R 8 i)
theorem ghL_o {R : Nat → Nat → Int32} {k i o : Nat} (ho : o ≠ 7) (h4 : o ≠ 4) : ghL R k i o = R o := (z2_o h4).trans (z2_o ho)
theorem R_320 : PG.2.1 320 = none := rfl
theorem m_320a {b u i m : Nat} (hi : ¬ i < m) (hi2 : i ≤ 80) (hm : m ≤ 80) {h : Mm} (T : ST h b) {R : Nat → Nat → Int32} (h1 : R 7 1 = Int32.ofNat i) (h0 : R 7 0 = Int32.ofNat m) : dM PG 320 [.ref b, .ref u] (h.sb b R) = some (.inl none, h.sb b R) := by
  rw [dM_of (Nat.le_of_ble_eq_true rfl)]
  have e : ¬ Int32.ofNat i < Int32.ofNat m := by rw [i32_lt (by omega) (by omega)]; exact hi
  simp -implicitDefEqProofs only [D_320_0, k_320_0, R_320, v_aload_n, g_getfield, sv_o, rf_s, sv_i, g_istore_n, v_iload_n, g_icmp_lt, g_return, entL, getL, setL, kL_i, kL_r, isI_s, isR_s, isJ_s, gV_s, iV_i, cs0, cs1, cs2, cs3, cs4, dn_nil, kd_si, kd_sl, kd_sw, mr_si, mr_sl, mr_sw, ml_si, ml_sw, mi_sl, kd_sb, mr_sb, bm_7, st_k T, st_r12 T, st_ki T, h1, h0, if_neg e]
theorem m_320b {b u i m : Nat} (hi : i < m) (hm : m ≤ 80) {h : Mm} (T : ST h b) {R : Nat → Nat → Int32} (h1 : R 7 1 = Int32.ofNat i) (h0 : R 7 0 = Int32.ofNat m) (hk : R 9 i = -1) : dM PG 320 [.ref b, .ref u] (h.sb b R) = some (.inl none, h.sb b (zu2 (ghA R) 10 i 1)) := by
  rw [dM_of (Nat.le_of_ble_eq_true rfl)]
  have b_1 : inb (Int32.ofNat (i)) 80 = true := inb_nat (by omega) (by decide)
  have n_1 : (Int32.ofNat (i)).toNatClampNeg = i := i32_nat (by omega)
  have e : Int32.ofNat i < Int32.ofNat m := by rw [i32_lt (by omega) (by omega)]; exact hi
  have e9 : zu2 R 7 1 (Int32.ofNat i + 1) 9 = R 9 := z2_o (by decide)
  have e8 : zu2 R 7 1 (Int32.ofNat i + 1) 8 = R 8 := z2_o (by decide)
  unfold ghA
  rw [h1]
  simp -implicitDefEqProofs only [D_320_0, k_320_0, D_320_20, k_320_20, R_320, v_aload_n, g_getfield, sv_o, rf_s, sv_i, g_istore_n, v_iload_n, g_icmp_lt, g_return, g_dup_i, g_dup_r, g_iconst, g_iadd, g_put_i, sv_a, v_iaload, inI_0, g_istore, g_icmp_ne, v_iastore, wrI_0, entL, getL, setL, kL_i, kL_r, isI_s, isR_s, isJ_s, gV_s, iV_i, cs0, cs1, cs2, cs3, cs4, dn_nil, kd_si, kd_sl, kd_sw, mr_si, mr_sl, mr_sw, ml_si, ml_sw, mi_sl, kd_sb, mr_sb, bm_7, bm_8, bm_9, bs_7, bs_10, st_k T, st_r12 T, st_ki T, st_i2 T, st_i3 T, st_i4 T, st_k8 T, st_k9 T, st_k10 T, h1, h0, if_pos e, b_1, n_1, e9, e8, hk, if_true]
theorem m_320c {b u i m k : Nat} (hi : i < m) (hm : m ≤ 80) (hk4 : k < 4) {h : Mm} (T : ST h b) {R : Nat → Nat → Int32} (h1 : R 7 1 = Int32.ofNat i) (h0 : R 7 0 = Int32.ofNat m) (hk : R 9 i = Int32.ofNat k) (hq : ¬ R 4 k + R 8 i ≤ R 3 k) : dM PG 320 [.ref b, .ref u] (h.sb b R) = some (.inl none, h.sb b (zu2 (zu2 (ghA R) 10 i 2) 5 k (R 5 k + R 8 i))) := by
  rw [dM_of (Nat.le_of_ble_eq_true rfl)]
  have b_1 : inb (Int32.ofNat (i)) 80 = true := inb_nat (by omega) (by decide)
  have n_1 : (Int32.ofNat (i)).toNatClampNeg = i := i32_nat (by omega)
  have b_2 : inb (Int32.ofNat (k)) 4 = true := inb_nat (by omega) (by decide)
  have n_2 : (Int32.ofNat (k)).toNatClampNeg = k := i32_nat (by omega)
  have e : Int32.ofNat i < Int32.ofNat m := by rw [i32_lt (by omega) (by omega)]; exact hi
  have f : ∀ o, o ≠ 7 → zu2 R 7 1 (Int32.ofNat i + 1) o = R o := fun o ho => z2_o ho
  have f5 : zu2 (zu2 R 7 1 (Int32.ofNat i + 1)) 10 i 2 5 = R 5 := (z2_o (by decide)).trans (z2_o (by decide))
  have q2 : ¬ Int32.ofNat k = -1 := oN_s (by omega)
  unfold ghA
  rw [h1]
  simp -implicitDefEqProofs only [D_320_0, k_320_0, D_320_20, k_320_20, D_320_70, k_320_70, R_320, v_aload_n, g_getfield, sv_o, rf_s, sv_i, g_istore_n, v_iload_n, g_icmp_lt, g_return, g_dup_i, g_dup_r, g_iconst, g_iadd, g_put_i, sv_a, v_iaload, inI_0, g_istore, g_icmp_ne, v_iastore, wrI_0, v_iload, g_icmp_le, g_dup2, entL, getL, setL, kL_i, kL_r, isI_s, isR_s, isJ_s, gV_s, iV_i, cs0, cs1, cs2, cs3, cs4, dn_nil, kd_si, kd_sl, kd_sw, mr_si, mr_sl, mr_sw, ml_si, ml_sw, mi_sl, kd_sb, mr_sb, bm_7, bm_8, bm_9, bm_3, bm_4, bm_5, bs_5, bs_7, bs_10, st_k T, st_r12 T, st_ki T, st_i2 T, st_i3 T, st_i4 T, st_k8 T, st_k9 T, st_k10 T, st_r8 T, st_r9 T, st_r10 T, st_k3 T, st_k4 T, st_k5 T, h1, h0, if_pos e, b_1, n_1, b_2, n_2, f 9 (by decide), f 8 (by decide), f 4 (by decide), f 3 (by decide), f5, hk, if_neg q2, if_neg hq]
theorem m_320d {b u i m k nb pc : Nat} (hub : u + 7 ≤ b) (hi : i < m) (hm : m ≤ 80) (hk4 : k < 4) (hnb : nb ≤ 3) (hpc : pc < 10) {h : Mm} (T : ST h b) (U : SU h u) (hp : h.mi (u + 3 + k) 1 = Int32.ofNat nb) {R : Nat → Nat → Int32} (h1 : R 7 1 = Int32.ofNat i) (h0 : R 7 0 = Int32.ofNat m) (hk : R 9 i = Int32.ofNat k) (hq : R 4 k + R 8 i ≤ R 3 k) (h5 : R 0 5 = Int32.ofNat pc) (hc : gchF (ghL R k i) k (R 8 i) (h.mi u 2) nb = none) : dM PG 320 [.ref b, .ref u] (h.sb b R) = some (.inl none, h.sb b (gpoA (ghL R k i) i pc)) := by
  rw [dM_of (Nat.le_of_ble_eq_true rfl)]
  have b_1 : inb (Int32.ofNat (i)) 80 = true := inb_nat (by omega) (by decide)
  have n_1 : (Int32.ofNat (i)).toNatClampNeg = i := i32_nat (by omega)
  have b_2 : inb (Int32.ofNat (k)) 4 = true := inb_nat (by omega) (by decide)
  have n_2 : (Int32.ofNat (k)).toNatClampNeg = k := i32_nat (by omega)
  have e : Int32.ofNat i < Int32.ofNat m := by rw [i32_lt (by omega) (by omega)]; exact hi
  have f : ∀ o, o ≠ 7 → zu2 R 7 1 (Int32.ofNat i + 1) o = R o := fun o ho => z2_o ho
  have q2 : ¬ Int32.ofNat k = -1 := oN_s (by omega)
  have g1 := m_344 (w := R 8 i) hub hk4 hnb T U hp (R := ghL R k i)
  rw [hc] at g1
  have g2 := m_345 (i := i) (pc := pc) (show i < 80 by omega) hpc T (R := ghL R k i) (by rw [ghL_o (by decide) (by decide), h5])
  have en0 : oN none = -1 := rfl
  unfold ghL ghA at g1 g2 ⊢
  rw [h1] at g1 g2 ⊢
  simp -implicitDefEqProofs only [D_320_0, k_320_0, D_320_20, k_320_20, D_320_70, k_320_70, D_320_110, k_320_110, D_320_160, k_320_160, R_320, v_aload_n, g_getfield, sv_o, rf_s, sv_i, g_istore_n, v_iload_n, g_icmp_lt, g_return, g_dup_i, g_dup_r, g_iconst, g_iadd, g_put_i, sv_a, v_iaload, inI_0, g_istore, g_icmp_ne, v_iastore, wrI_0, v_iload, g_icmp_le, g_dup2, v_callV4, aft_v, aft_n, v_callV2, g_goto, entL, getL, setL, kL_i, kL_r, isI_s, isR_s, isJ_s, gV_s, iV_i, cs0, cs1, cs2, cs3, cs4, dn_nil, kd_si, kd_sl, kd_sw, mr_si, mr_sl, mr_sw, ml_si, ml_sw, mi_sl, kd_sb, mr_sb, bm_7, bm_8, bm_9, bm_3, bm_4, bs_4, bs_7, st_k T, st_r12 T, st_ki T, st_i2 T, st_i3 T, st_k8 T, st_k9 T, st_r8 T, st_r9 T, st_k3 T, st_k4 T, h1, h0, if_pos e, b_1, n_1, b_2, n_2, f 9 (by decide), f 8 (by decide), f 4 (by decide), f 3 (by decide), hk, if_neg q2, if_pos hq, g1, en0, if_true, g2]
theorem m_320e {b u i m k nb p : Nat} (hub : u + 7 ≤ b) (hi : i < m) (hm : m ≤ 80) (hk4 : k < 4) (hnb : nb ≤ 3) (hp3 : p < 3) {h : Mm} (T : ST h b) (U : SU h u) (hp : h.mi (u + 3 + k) 1 = Int32.ofNat nb) {R : Nat → Nat → Int32} (h1 : R 7 1 = Int32.ofNat i) (h0 : R 7 0 = Int32.ofNat m) (hk : R 9 i = Int32.ofNat k) (hq : R 4 k + R 8 i ≤ R 3 k) (hc : gchF (ghL R k i) k (R 8 i) (h.mi u 2) nb = some p) {x : Int32} {R2 : Nat → Nat → Int32} (h264 : dM PG 264 [.ref b, .int (Int32.ofNat k), .int (Int32.ofNat p)] (h.sb b (gpA (ghL R k i) k p i)) = some (.inl (some (.int x)), h.sb b R2)) : dM PG 320 [.ref b, .ref u] (h.sb b R) = some (.inl none, h.sb b R2) := by
  rw [dM_of (Nat.le_of_ble_eq_true rfl)]
  have b_1 : inb (Int32.ofNat (i)) 80 = true := inb_nat (by omega) (by decide)
  have n_1 : (Int32.ofNat (i)).toNatClampNeg = i := i32_nat (by omega)
  have b_2 : inb (Int32.ofNat (k)) 4 = true := inb_nat (by omega) (by decide)
  have n_2 : (Int32.ofNat (k)).toNatClampNeg = k := i32_nat (by omega)
  have e : Int32.ofNat i < Int32.ofNat m := by rw [i32_lt (by omega) (by omega)]; exact hi
  have f : ∀ o, o ≠ 7 → zu2 R 7 1 (Int32.ofNat i + 1) o = R o := fun o ho => z2_o ho
  have q2 : ¬ Int32.ofNat k = -1 := oN_s (by omega)
  have g1 := m_344 (w := R 8 i) hub hk4 hnb T U hp (R := ghL R k i)
  rw [hc] at g1
  have g2 := m_263 (i := i) (p := p) (show i < 80 by omega) hk4 hp3 T (R := ghL R k i) (by rw [ghL_o (by decide) (by decide), hk])
  have en : oN (some p) = Int32.ofNat p := rfl
  have en2 : ¬ Int32.ofNat p = -1 := oN_s (by omega)
  unfold ghL ghA at g1 g2 h264
  rw [h1] at g1 g2 h264
  simp -implicitDefEqProofs only [D_320_0, k_320_0, D_320_20, k_320_20, D_320_70, k_320_70, D_320_110, k_320_110, D_320_145, k_320_145, D_320_160, k_320_160, R_320, v_aload_n, g_getfield, sv_o, rf_s, sv_i, g_istore_n, v_iload_n, g_icmp_lt, g_return, g_dup_i, g_dup_r, g_iconst, g_iadd, g_put_i, sv_a, v_iaload, inI_0, g_istore, g_icmp_ne, v_iastore, wrI_0, v_iload, g_icmp_le, g_dup2, v_callV4, aft_v, aft_n, v_callV2, g_goto, v_callV3, g_pop_i, g_pop_r, entL, getL, setL, kL_i, kL_r, isI_s, isR_s, isJ_s, gV_s, iV_i, cs0, cs1, cs2, cs3, cs4, dn_nil, kd_si, kd_sl, kd_sw, mr_si, mr_sl, mr_sw, ml_si, ml_sw, mi_sl, kd_sb, mr_sb, bm_7, bm_8, bm_9, bm_3, bm_4, bs_4, bs_7, st_k T, st_r12 T, st_ki T, st_i2 T, st_i3 T, st_k8 T, st_k9 T, st_r8 T, st_r9 T, st_k3 T, st_k4 T, h1, h0, if_pos e, b_1, n_1, b_2, n_2, f 9 (by decide), f 8 (by decide), f 4 (by decide), f 3 (by decide), hk, if_neg q2, if_pos hq, g1, en, if_neg en2, g2, h264]
