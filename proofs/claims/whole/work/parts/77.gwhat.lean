-- ===== the grader: what-if questions =====
theorem R_273 : PG.2.1 273 = (some .int) := rfl
theorem m_273 {u d b c m k : Nat} (hmk : m ≤ k) (hk : k ≤ 80) (hbc : b + 19 ≤ c ∨ c + 19 ≤ b) {h : Mm} (G : GO h u d b c) (Tb : ST h b) (Tc : ST h c) {Q : Nat → Nat → Int32} (h13 : h.mi (b + 13) 0 = Int32.ofNat m) (hQ : Q 13 0 = Int32.ofNat k) : dM PG 273 [.ref 200] (h.sb c Q) = some (.inl (some (.int (fl (fun j a => a + exF Q j) (k - m) m 0))), h.sb c Q) := by
  rw [dM_of (Nat.le_of_ble_eq_true rfl)]
  have x13 : (h.sb c Q).mi (b + 13) = h.mi (b + 13) := mi_sbo (by omega)
  simp -implicitDefEqProofs only [D_273_0, k_273_0, R_273, v_aload_n, g_getfield, sv_o, rf_s, sv_i, v_callV2, aft_v, aft_n, g_ireturn, entL, getL, setL, kL_i, kL_r, isI_s, isR_s, isJ_s, gV_s, iV_i, cs0, cs1, cs2, cs3, cs4, dn_nil, kd_si, kd_sl, kd_sw, mr_si, mr_sl, mr_sw, ml_si, ml_sw, mi_sl, go_k G, go_r0 G, go_r5 G, go_r6 G, go_r7 G, go_r8 G, go_r10 G, go_r12 G, go_r13 G, go_r14 G, go_k201 G, go_k273 G, go_k274 G, go_k276 G, st_k Tb, st_r6 Tb, st_r7 Tb, st_r8 Tb, st_r9 Tb, st_r10 Tb, st_r11 Tb, st_r12 Tb, st_r13 Tb, st_k1 Tb, st_k2 Tb, st_k3 Tb, st_k4 Tb, st_k5 Tb, st_k6 Tb, st_ki Tb, st_i2 Tb, st_i3 Tb, st_i4 Tb, st_i5 Tb, st_i6 Tb, st_k8 Tb, st_k9 Tb, st_k10 Tb, st_k11 Tb, st_k12 Tb, st_kb Tb, st_b2 Tb, st_b3 Tb, st_b4 Tb, st_b5 Tb, st_b6 Tb, st_k14 Tb, st_k15 Tb, st_k16 Tb, st_k17 Tb, st_k18 Tb, st_k Tc, st_r6 Tc, st_r7 Tc, st_r8 Tc, st_r9 Tc, st_r10 Tc, st_r11 Tc, st_r12 Tc, st_r13 Tc, st_k1 Tc, st_k2 Tc, st_k3 Tc, st_k4 Tc, st_k5 Tc, st_k6 Tc, st_ki Tc, st_i2 Tc, st_i3 Tc, st_i4 Tc, st_i5 Tc, st_i6 Tc, st_k8 Tc, st_k9 Tc, st_k10 Tc, st_k11 Tc, st_k12 Tc, st_kb Tc, st_b2 Tc, st_b3 Tc, st_b4 Tc, st_b5 Tc, st_b6 Tc, st_k14 Tc, st_k15 Tc, st_k16 Tc, st_k17 Tc, st_k18 Tc, kd_sb, mr_sb, x13, h13, m_317 hk hmk Tc hQ, retX_int]
theorem R_274 : PG.2.1 274 = (some .int) := rfl
theorem m_274 {u d b c : Nat} (hbc : b + 19 ≤ c ∨ c + 19 ≤ b) {h : Mm} (G : GO h u d b c) (Tb : ST h b) (Tc : ST h c) {Q : Nat → Nat → Int32} : dM PG 274 [.ref 200] (h.sb c Q) = some (.inl (some (.int (Q 13 0 - h.mi (b + 13) 0))), h.sb c Q) := by
  rw [dM_of (Nat.le_of_ble_eq_true rfl)]
  have x13 : (h.sb c Q).mi (b + 13) = h.mi (b + 13) := mi_sbo (by omega)
  simp -implicitDefEqProofs only [D_274_0, k_274_0, R_274, v_aload_n, g_getfield, sv_o, rf_s, sv_i, g_isub, g_ireturn, entL, getL, setL, kL_i, kL_r, isI_s, isR_s, isJ_s, gV_s, iV_i, cs0, cs1, cs2, cs3, cs4, dn_nil, kd_si, kd_sl, kd_sw, mr_si, mr_sl, mr_sw, ml_si, ml_sw, mi_sl, go_k G, go_r0 G, go_r5 G, go_r6 G, go_r7 G, go_r8 G, go_r10 G, go_r12 G, go_r13 G, go_r14 G, go_k201 G, go_k273 G, go_k274 G, go_k276 G, st_k Tb, st_r6 Tb, st_r7 Tb, st_r8 Tb, st_r9 Tb, st_r10 Tb, st_r11 Tb, st_r12 Tb, st_r13 Tb, st_k1 Tb, st_k2 Tb, st_k3 Tb, st_k4 Tb, st_k5 Tb, st_k6 Tb, st_ki Tb, st_i2 Tb, st_i3 Tb, st_i4 Tb, st_i5 Tb, st_i6 Tb, st_k8 Tb, st_k9 Tb, st_k10 Tb, st_k11 Tb, st_k12 Tb, st_kb Tb, st_b2 Tb, st_b3 Tb, st_b4 Tb, st_b5 Tb, st_b6 Tb, st_k14 Tb, st_k15 Tb, st_k16 Tb, st_k17 Tb, st_k18 Tb, st_k Tc, st_r6 Tc, st_r7 Tc, st_r8 Tc, st_r9 Tc, st_r10 Tc, st_r11 Tc, st_r12 Tc, st_r13 Tc, st_k1 Tc, st_k2 Tc, st_k3 Tc, st_k4 Tc, st_k5 Tc, st_k6 Tc, st_ki Tc, st_i2 Tc, st_i3 Tc, st_i4 Tc, st_i5 Tc, st_i6 Tc, st_k8 Tc, st_k9 Tc, st_k10 Tc, st_k11 Tc, st_k12 Tc, st_kb Tc, st_b2 Tc, st_b3 Tc, st_b4 Tc, st_b5 Tc, st_b6 Tc, st_k14 Tc, st_k15 Tc, st_k16 Tc, st_k17 Tc, st_k18 Tc, kd_sb, mr_sb, bm_13, x13, retX_int]
theorem m_272p {u d b c n m : Nat} (hm : m ≤ 80) (hn : n ≤ 80) (hbc : b + 19 ≤ c ∨ c + 19 ≤ b) {h : Mm} (G : GO h u d b c) (Tb : ST h b) (Tc : ST h c) (h7 : h.mi (b + 7) 0 = Int32.ofNat n) (h13 : h.mi (b + 13) 0 = Int32.ofNat m) : dM PG 272 [.ref 200] h = some (.inl none, h.sb c (cpR n m (rowsAt h b) (rowsAt h c))) := by
  have g := m_272 hm hn hbc G Tb Tc (Q := rowsAt h c) h7 h13
  rw [sb_id] at g
  exact g
theorem R_190 : PG.2.1 190 = (some .int) := rfl
theorem x_190 {E : String} : PG.2.2.1 190 E = none := rfl
theorem m_190n {i : Int32} {u d b c : Nat} {h : Mm} (G : GO h u d b c) (hl : h.mi 200 4 = 0) : dM PG 190 [.ref 200, .int i] h = some (.inr (exN 0), h.thr) := by
  rw [dM_of (Nat.le_of_ble_eq_true rfl)]
  simp -implicitDefEqProofs only [D_190_0, k_190_0, R_190, v_aload_n, v_callV1, aft_v, aft_n, v_iload_n, g_iconst, g_bipush, v_callS3, g_getfield, sv_o, rf_s, v_callV3, g_ireturn, entL, getL, setL, kL_i, kL_r, isI_s, isR_s, isJ_s, gV_s, iV_i, cs0, cs1, cs2, cs3, cs4, dn_nil, kd_si, kd_sl, kd_sw, mr_si, mr_sl, mr_sw, ml_si, ml_sw, mi_sl, go_k G, m_236n G hl, aft_x (x_190)]
theorem m_190x {i : Int32} {u d b c : Nat} {h : Mm} (G : GO h u d b c) (hl : ¬ h.mi 200 4 = 0) (hi : i < 1 ∨ ¬ i ≤ 100) : dM PG 190 [.ref 200, .int i] h = some (.inr (exN 2), h.thr) := by
  rw [dM_of (Nat.le_of_ble_eq_true rfl)]
  simp -implicitDefEqProofs only [D_190_0, k_190_0, R_190, v_aload_n, v_callV1, aft_v, aft_n, v_iload_n, g_iconst, g_bipush, v_callS3, g_getfield, sv_o, rf_s, v_callV3, g_ireturn, entL, getL, setL, kL_i, kL_r, isI_s, isR_s, isJ_s, gV_s, iV_i, cs0, cs1, cs2, cs3, cs4, dn_nil, kd_si, kd_sl, kd_sw, mr_si, mr_sl, mr_sw, ml_si, ml_sw, mi_sl, go_k G, m_236y G hl, m_251n hi, aft_x (x_190)]
theorem m_190y {i : Int32} {u d b c n m : Nat} (hm : m ≤ 80) (hn : n ≤ 80) (hbc : b + 19 ≤ c ∨ c + 19 ≤ b) {h : Mm} (G : GO h u d b c) (Tb : ST h b) (Tc : ST h c) (hl : ¬ h.mi 200 4 = 0) (a1 : ¬ i < 1) (a2 : i ≤ 100) (h7 : h.mi (b + 7) 0 = Int32.ofNat n) (h13 : h.mi (b + 13) 0 = Int32.ofNat m) {Q : Nat → Nat → Int32} (hr : dM PG 268 [.ref c, .ref u, .int i] (h.sb c (cpR n m (rowsAt h b) (rowsAt h c))) = some (.inl none, h.sb c Q)) : dM PG 190 [.ref 200, .int i] h = some (.inl (some (.int (Q 13 0 - h.mi (b + 13) 0))), h.sb c Q) := by
  rw [dM_of (Nat.le_of_ble_eq_true rfl)]
  simp -implicitDefEqProofs only [D_190_0, k_190_0, R_190, v_aload_n, v_callV1, aft_v, aft_n, v_iload_n, g_iconst, g_bipush, v_callS3, g_getfield, sv_o, rf_s, v_callV3, g_ireturn, entL, getL, setL, kL_i, kL_r, isI_s, isR_s, isJ_s, gV_s, iV_i, cs0, cs1, cs2, cs3, cs4, dn_nil, kd_si, kd_sl, kd_sw, mr_si, mr_sl, mr_sw, ml_si, ml_sw, mi_sl, go_k G, go_r0 G, go_r5 G, go_r6 G, go_r7 G, go_r8 G, go_r10 G, go_r12 G, go_r13 G, go_r14 G, go_k201 G, go_k273 G, go_k274 G, go_k276 G, st_k Tc, st_r6 Tc, st_r7 Tc, st_r8 Tc, st_r9 Tc, st_r10 Tc, st_r11 Tc, st_r12 Tc, st_r13 Tc, st_k1 Tc, st_k2 Tc, st_k3 Tc, st_k4 Tc, st_k5 Tc, st_k6 Tc, st_ki Tc, st_i2 Tc, st_i3 Tc, st_i4 Tc, st_i5 Tc, st_i6 Tc, st_k8 Tc, st_k9 Tc, st_k10 Tc, st_k11 Tc, st_k12 Tc, st_kb Tc, st_b2 Tc, st_b3 Tc, st_b4 Tc, st_b5 Tc, st_b6 Tc, st_k14 Tc, st_k15 Tc, st_k16 Tc, st_k17 Tc, st_k18 Tc, kd_sb, mr_sb, m_236y G hl, m_251y a1 a2, m_272p hm hn hbc G Tb Tc h7 h13, hr, m_274 hbc G Tb Tc, retX_int]
theorem R_189 : PG.2.1 189 = (some .int) := rfl
theorem x_189 {E : String} : PG.2.2.1 189 E = none := rfl
theorem m_189n {i : Int32} {u d b c : Nat} {h : Mm} (G : GO h u d b c) (hl : h.mi 200 4 = 0) : dM PG 189 [.ref 200, .int i] h = some (.inr (exN 0), h.thr) := by
  rw [dM_of (Nat.le_of_ble_eq_true rfl)]
  simp -implicitDefEqProofs only [D_189_0, k_189_0, R_189, v_aload_n, v_callV1, aft_v, aft_n, v_iload_n, g_iconst, g_bipush, v_callS3, g_getfield, sv_o, rf_s, v_callV3, g_ireturn, entL, getL, setL, kL_i, kL_r, isI_s, isR_s, isJ_s, gV_s, iV_i, cs0, cs1, cs2, cs3, cs4, dn_nil, kd_si, kd_sl, kd_sw, mr_si, mr_sl, mr_sw, ml_si, ml_sw, mi_sl, go_k G, m_236n G hl, aft_x (x_189)]
theorem m_189x {i : Int32} {u d b c : Nat} {h : Mm} (G : GO h u d b c) (hl : ¬ h.mi 200 4 = 0) (hi : i < 1 ∨ ¬ i ≤ 100) : dM PG 189 [.ref 200, .int i] h = some (.inr (exN 2), h.thr) := by
  rw [dM_of (Nat.le_of_ble_eq_true rfl)]
  simp -implicitDefEqProofs only [D_189_0, k_189_0, R_189, v_aload_n, v_callV1, aft_v, aft_n, v_iload_n, g_iconst, g_bipush, v_callS3, g_getfield, sv_o, rf_s, v_callV3, g_ireturn, entL, getL, setL, kL_i, kL_r, isI_s, isR_s, isJ_s, gV_s, iV_i, cs0, cs1, cs2, cs3, cs4, dn_nil, kd_si, kd_sl, kd_sw, mr_si, mr_sl, mr_sw, ml_si, ml_sw, mi_sl, go_k G, m_236y G hl, m_251n hi, aft_x (x_189)]
theorem m_189y {i : Int32} {u d b c n m k : Nat} (hm : m ≤ k) (hk : k ≤ 80) (hn : n ≤ 80) (hbc : b + 19 ≤ c ∨ c + 19 ≤ b) {h : Mm} (G : GO h u d b c) (Tb : ST h b) (Tc : ST h c) (hl : ¬ h.mi 200 4 = 0) (a1 : ¬ i < 1) (a2 : i ≤ 100) (h7 : h.mi (b + 7) 0 = Int32.ofNat n) (h13 : h.mi (b + 13) 0 = Int32.ofNat m) {Q : Nat → Nat → Int32} (hr : dM PG 268 [.ref c, .ref u, .int i] (h.sb c (cpR n m (rowsAt h b) (rowsAt h c))) = some (.inl none, h.sb c Q)) (hQ : Q 13 0 = Int32.ofNat k) : dM PG 189 [.ref 200, .int i] h = some (.inl (some (.int (fl (fun j a => a + exF Q j) (k - m) m 0))), h.sb c Q) := by
  rw [dM_of (Nat.le_of_ble_eq_true rfl)]
  simp -implicitDefEqProofs only [D_189_0, k_189_0, R_189, v_aload_n, v_callV1, aft_v, aft_n, v_iload_n, g_iconst, g_bipush, v_callS3, g_getfield, sv_o, rf_s, v_callV3, g_ireturn, entL, getL, setL, kL_i, kL_r, isI_s, isR_s, isJ_s, gV_s, iV_i, cs0, cs1, cs2, cs3, cs4, dn_nil, kd_si, kd_sl, kd_sw, mr_si, mr_sl, mr_sw, ml_si, ml_sw, mi_sl, go_k G, go_r0 G, go_r5 G, go_r6 G, go_r7 G, go_r8 G, go_r10 G, go_r12 G, go_r13 G, go_r14 G, go_k201 G, go_k273 G, go_k274 G, go_k276 G, st_k Tc, st_r6 Tc, st_r7 Tc, st_r8 Tc, st_r9 Tc, st_r10 Tc, st_r11 Tc, st_r12 Tc, st_r13 Tc, st_k1 Tc, st_k2 Tc, st_k3 Tc, st_k4 Tc, st_k5 Tc, st_k6 Tc, st_ki Tc, st_i2 Tc, st_i3 Tc, st_i4 Tc, st_i5 Tc, st_i6 Tc, st_k8 Tc, st_k9 Tc, st_k10 Tc, st_k11 Tc, st_k12 Tc, st_kb Tc, st_b2 Tc, st_b3 Tc, st_b4 Tc, st_b5 Tc, st_b6 Tc, st_k14 Tc, st_k15 Tc, st_k16 Tc, st_k17 Tc, st_k18 Tc, kd_sb, mr_sb, m_236y G hl, m_251y a1 a2, m_272p (show m ≤ 80 by omega) hn hbc G Tb Tc h7 h13, hr, m_273 hm hk hbc G Tb Tc h13 hQ, retX_int]
/-- a search over memories that change -/
theorem lfm {P : Pg} {y pc n o : Nat} {L : Nat → Lc → Lc} {h : Nat → Mm} {p : Nat → Bool} {r : Option Nat → Option Rs}
    (hs : ∀ i tl, o ≤ i → i < n → p i = false → ∃ tl', dB P y pc (L i tl) [] (h i) = dB P y pc (L (i + 1) tl') [] (h (i + 1)))
    (hy : ∀ i tl, o ≤ i → i < n → p i = true → dB P y pc (L i tl) [] (h i) = r (some i))
    (he : ∀ tl, dB P y pc (L n tl) [] (h n) = r none) : ∀ (d i : Nat) (tl : Lc), o ≤ i → i + d = n → dB P y pc (L i tl) [] (h i) = r (fnd p d i) := by
  intro d
  induction d with
  | zero =>
    intro i tl ho hi
    obtain rfl : i = n := by omega
    exact he tl
  | succ d ih =>
    intro i tl ho hi
    unfold fnd
    cases c : p i with
    | true => rw [if_pos rfl]; exact hy i tl ho (by omega) c
    | false =>
      rw [if_neg (by decide)]
      obtain ⟨tl', e⟩ := hs i tl ho (by omega) c
      rw [e]
      exact ih (i + 1) tl' (by omega) (by omega)
theorem fnd_lt {p : Nat → Bool} : ∀ (d i j : Nat), fnd p d i = some j → i ≤ j ∧ j < i + d := by
  intro d
  induction d with
  | zero => intro i j h; cases h
  | succ d ih =>
    intro i j h
    unfold fnd at h
    split at h
    · cases h; omega
    · have := ih (i + 1) j h; omega
theorem R_188 : PG.2.1 188 = (some .int) := rfl
theorem x_188 {E : String} : PG.2.2.1 188 E = none := rfl
theorem m_188n {i t : Int32} {u d b c : Nat} {h : Mm} (G : GO h u d b c) (U : SU h u) (hl : h.mi 200 4 = 0) : dM PG 188 [.ref 200, .int i, .int t] h = some (.inr (exN 0), h.thr) := by
  rw [dM_of (Nat.le_of_ble_eq_true rfl)]
  simp -implicitDefEqProofs only [D_188_0, k_188_0, v_aload_n, v_iload_n, v_callV2, aft_v, aft_n, g_iconst, g_bipush, v_callS3, g_getfield, sv_o, rf_s, g_istore_n, v_callV1, g_istore, entL, getL, setL, kL_i, kL_r, isI_s, isR_s, isJ_s, gV_s, iV_i, cs0, cs1, cs2, cs3, cs4, dn_nil, kd_si, kd_sl, kd_sw, mr_si, mr_sl, mr_sw, ml_si, ml_sw, mi_sl, go_k G, m_250n G U hl, aft_x (x_188)]
theorem m_188x {i t : Int32} {u d b c : Nat} {h : Mm} (G : GO h u d b c) (U : SU h u) (hl : ¬ h.mi 200 4 = 0) (hi : i < 0 ∨ ¬ i < h.mi u 11) : dM PG 188 [.ref 200, .int i, .int t] h = some (.inr (exN 1), h.thr) := by
  rw [dM_of (Nat.le_of_ble_eq_true rfl)]
  simp -implicitDefEqProofs only [D_188_0, k_188_0, v_aload_n, v_iload_n, v_callV2, aft_v, aft_n, g_iconst, g_bipush, v_callS3, g_getfield, sv_o, rf_s, g_istore_n, v_callV1, g_istore, entL, getL, setL, kL_i, kL_r, isI_s, isR_s, isJ_s, gV_s, iV_i, cs0, cs1, cs2, cs3, cs4, dn_nil, kd_si, kd_sl, kd_sw, mr_si, mr_sl, mr_sw, ml_si, ml_sw, mi_sl, go_k G, m_250x G U hl hi, aft_x (x_188)]
theorem m_188z {i t : Int32} {u d b c : Nat} {h : Mm} (G : GO h u d b c) (U : SU h u) (hl : ¬ h.mi 200 4 = 0) (a : ¬ i < 0) (e : i < h.mi u 11) (ht : t < 1 ∨ ¬ t ≤ 100) : dM PG 188 [.ref 200, .int i, .int t] h = some (.inr (exN 2), h.thr) := by
  rw [dM_of (Nat.le_of_ble_eq_true rfl)]
  simp -implicitDefEqProofs only [D_188_0, k_188_0, v_aload_n, v_iload_n, v_callV2, aft_v, aft_n, g_iconst, g_bipush, v_callS3, g_getfield, sv_o, rf_s, g_istore_n, v_callV1, g_istore, entL, getL, setL, kL_i, kL_r, isI_s, isR_s, isJ_s, gV_s, iV_i, cs0, cs1, cs2, cs3, cs4, dn_nil, kd_si, kd_sl, kd_sw, mr_si, mr_sl, mr_sw, ml_si, ml_sw, mi_sl, go_k G, m_250y G U hl a e, m_251n ht, aft_x (x_188)]
theorem m_188y {i : Int32} {t u d b c n m : Nat} (ht1 : 1 ≤ t) (ht2 : t ≤ 100) (hm : m ≤ 80) (hn : n ≤ 80) (hbc : b + 19 ≤ c ∨ c + 19 ≤ b) {h : Mm} (G : GO h u d b c) (U : SU h u) (Tb : ST h b) (Tc : ST h c) (hl : ¬ h.mi 200 4 = 0) (a : ¬ i < 0) (e : i < h.mi u 11) (h7 : h.mi (b + 7) 0 = Int32.ofNat n) (h13 : h.mi (b + 13) 0 = Int32.ofNat m) (Q : Nat → Nat → Nat → Int32) (hQ0 : Q 0 = cpR n m (rowsAt h b) (rowsAt h c)) (k : Nat → Nat) (hQ : ∀ j, j < t → dM PG 276 [.ref c, .ref u] (h.sb c (Q j)) = some (.inl none, h.sb c (Q (j + 1))) ∧ Q (j + 1) 13 0 = Int32.ofNat (k (j + 1)) ∧ k (j + 1) ≤ 80) : ∃ j, dM PG 188 [.ref 200, .int i, .int (Int32.ofNat t)] h = some (.inl (some (.int (oN (fnd (fun j => decide (fl (cnO (rowsAt h b) i) m 0 0 < fl (cnO (Q j) i) (k j) 0 0)) t 1)))), h.sb c (Q j)) := by
  rw [dM_of (Nat.le_of_ble_eq_true rfl)]
  have aq0 : ¬ Int32.ofNat (t) < Int32.ofNat (1) := by rw [i32_lt (by omega) (by omega)]; omega
  have eq0 : Int32.ofNat (t) ≤ Int32.ofNat (100) := by rw [i32_le (by omega) (by omega)]; omega
  have aq : ¬ Int32.ofNat t < 1 := aq0
  have eq : Int32.ofNat t ≤ 100 := eq0
  have g1 := m_279 (x := i) hm Tb (R := rowsAt h b) h13
  rw [sb_id] at g1
  generalize hb0 : fl (cnO (rowsAt h b) i) m 0 0 = b0 at g1 ⊢
  have g2 := m_272p hm hn hbc G Tb Tc h7 h13
  rw [← hQ0] at g2
  refine ⟨(match fnd (fun j => decide (b0 < fl (cnO (Q j) i) (k j) 0 0)) t 1 with | none => t | some j => j), ?_⟩
  simp -implicitDefEqProofs only [D_188_0, k_188_0, v_aload_n, v_iload_n, v_callV2, aft_v, aft_n, g_iconst, g_bipush, v_callS3, g_getfield, sv_o, rf_s, g_istore_n, v_callV1, g_istore, entL, getL, setL, kL_i, kL_r, isI_s, isR_s, isJ_s, gV_s, iV_i, cs0, cs1, cs2, cs3, cs4, dn_nil, kd_si, kd_sl, kd_sw, mr_si, mr_sl, mr_sw, ml_si, ml_sw, mi_sl, go_k G, go_r0 G, go_r5 G, go_r6 G, go_r7 G, go_r8 G, go_r10 G, go_r12 G, go_r13 G, go_r14 G, go_k201 G, go_k273 G, go_k274 G, go_k276 G, st_k Tb, st_r6 Tb, st_r7 Tb, st_r8 Tb, st_r9 Tb, st_r10 Tb, st_r11 Tb, st_r12 Tb, st_r13 Tb, st_k1 Tb, st_k2 Tb, st_k3 Tb, st_k4 Tb, st_k5 Tb, st_k6 Tb, st_ki Tb, st_i2 Tb, st_i3 Tb, st_i4 Tb, st_i5 Tb, st_i6 Tb, st_k8 Tb, st_k9 Tb, st_k10 Tb, st_k11 Tb, st_k12 Tb, st_kb Tb, st_b2 Tb, st_b3 Tb, st_b4 Tb, st_b5 Tb, st_b6 Tb, st_k14 Tb, st_k15 Tb, st_k16 Tb, st_k17 Tb, st_k18 Tb, m_250y G U hl a e, m_251y aq eq, g1, g2]
  refine lfm (o := 1) (n := t + 1) (p := fun j => decide (b0 < fl (cnO (Q j) i) (k j) 0 0)) (h := fun j => h.sb c (Q (j - 1))) (L := fun j tl => some (.ref 200) :: some (.int i) :: some (.int (Int32.ofNat t)) :: some (.int b0) :: some (.int (Int32.ofNat j)) :: tl) (r := fun o => some (.inl (some (.int (oN o))), h.sb c (Q (match o with | none => t | some j => j)))) ?_ ?_ ?_ t 1 [] (by omega) (by omega)
  · intro j tl j0 hj c1
    · have c2 : ¬ b0 < fl (cnO (Q j) i) (k j) 0 0 := of_decide_eq_false c1
      have c3 : fl (cnO (Q j) i) (k j) 0 0 ≤ b0 := Int32.not_lt.mp c2
      obtain ⟨q1, q2, q3⟩ := hQ (j - 1) (by omega)
      rw [show j - 1 + 1 = j by omega] at q1 q2 q3
      have g3 := m_279 (x := i) q3 Tc (R := Q j) q2
      have e1 : ¬ Int32.ofNat (t) < Int32.ofNat (j) := by rw [i32_lt (by omega) (by omega)]; omega
      have s1 : Int32.ofNat (j) + 1 = Int32.ofNat (j + 1) := i32_add (b := 1)
      refine ⟨tl, ?_⟩
      rw [D_188_31, Nat.add_sub_cancel]
      simp -implicitDefEqProofs only [D_188_0, k_188_0, k_188_31, D_188_66, k_188_66, D_188_72, k_188_72, R_188, v_aload_n, v_iload_n, v_callV2, aft_v, aft_n, g_iconst, g_bipush, v_callS3, g_getfield, sv_o, rf_s, g_istore_n, v_callV1, g_istore, v_iload, g_icmp_gt, g_icmp_le, g_ireturn, v_iinc, g_goto, entL, getL, setL, kL_i, kL_r, isI_s, isR_s, isJ_s, gV_s, iV_i, cs0, cs1, cs2, cs3, cs4, dn_nil, kd_si, kd_sl, kd_sw, mr_si, mr_sl, mr_sw, ml_si, ml_sw, mi_sl, go_k G, go_r0 G, go_r5 G, go_r6 G, go_r7 G, go_r8 G, go_r10 G, go_r12 G, go_r13 G, go_r14 G, go_k201 G, go_k273 G, go_k274 G, go_k276 G, st_k Tc, st_r6 Tc, st_r7 Tc, st_r8 Tc, st_r9 Tc, st_r10 Tc, st_r11 Tc, st_r12 Tc, st_r13 Tc, st_k1 Tc, st_k2 Tc, st_k3 Tc, st_k4 Tc, st_k5 Tc, st_k6 Tc, st_ki Tc, st_i2 Tc, st_i3 Tc, st_i4 Tc, st_i5 Tc, st_i6 Tc, st_k8 Tc, st_k9 Tc, st_k10 Tc, st_k11 Tc, st_k12 Tc, st_kb Tc, st_b2 Tc, st_b3 Tc, st_b4 Tc, st_b5 Tc, st_b6 Tc, st_k14 Tc, st_k15 Tc, st_k16 Tc, st_k17 Tc, st_k18 Tc, kd_sb, mr_sb, ↓if_neg e1, if_neg e1, q1, g3, ↓if_pos c3, if_pos c3, s1]
  · intro j tl j0 hj c1
    · have c2 : b0 < fl (cnO (Q j) i) (k j) 0 0 := of_decide_eq_true c1
      have c3 : ¬ fl (cnO (Q j) i) (k j) 0 0 ≤ b0 := Int32.not_le.mpr c2
      obtain ⟨q1, q2, q3⟩ := hQ (j - 1) (by omega)
      rw [show j - 1 + 1 = j by omega] at q1 q2 q3
      have g3 := m_279 (x := i) q3 Tc (R := Q j) q2
      have e1 : ¬ Int32.ofNat (t) < Int32.ofNat (j) := by rw [i32_lt (by omega) (by omega)]; omega
      rw [D_188_31]
      simp -implicitDefEqProofs only [D_188_0, k_188_0, k_188_31, D_188_66, k_188_66, D_188_72, k_188_72, R_188, v_aload_n, v_iload_n, v_callV2, aft_v, aft_n, g_iconst, g_bipush, v_callS3, g_getfield, sv_o, rf_s, g_istore_n, v_callV1, g_istore, v_iload, g_icmp_gt, g_icmp_le, g_ireturn, v_iinc, g_goto, entL, getL, setL, kL_i, kL_r, isI_s, isR_s, isJ_s, gV_s, iV_i, cs0, cs1, cs2, cs3, cs4, dn_nil, kd_si, kd_sl, kd_sw, mr_si, mr_sl, mr_sw, ml_si, ml_sw, mi_sl, go_k G, go_r0 G, go_r5 G, go_r6 G, go_r7 G, go_r8 G, go_r10 G, go_r12 G, go_r13 G, go_r14 G, go_k201 G, go_k273 G, go_k274 G, go_k276 G, st_k Tc, st_r6 Tc, st_r7 Tc, st_r8 Tc, st_r9 Tc, st_r10 Tc, st_r11 Tc, st_r12 Tc, st_r13 Tc, st_k1 Tc, st_k2 Tc, st_k3 Tc, st_k4 Tc, st_k5 Tc, st_k6 Tc, st_ki Tc, st_i2 Tc, st_i3 Tc, st_i4 Tc, st_i5 Tc, st_i6 Tc, st_k8 Tc, st_k9 Tc, st_k10 Tc, st_k11 Tc, st_k12 Tc, st_kb Tc, st_b2 Tc, st_b3 Tc, st_b4 Tc, st_b5 Tc, st_b6 Tc, st_k14 Tc, st_k15 Tc, st_k16 Tc, st_k17 Tc, st_k18 Tc, kd_sb, mr_sb, ↓if_neg e1, if_neg e1, q1, g3, ↓if_neg c3, if_neg c3, retX_int]
      rfl
  · intro tl
    have e1 : Int32.ofNat (t) < Int32.ofNat (t + 1) := by rw [i32_lt (by omega) (by omega)]; omega
    rw [D_188_31, Nat.add_sub_cancel]
    simp -implicitDefEqProofs only [D_188_0, k_188_0, k_188_31, D_188_66, k_188_66, D_188_72, k_188_72, R_188, v_aload_n, v_iload_n, v_callV2, aft_v, aft_n, g_iconst, g_bipush, v_callS3, g_getfield, sv_o, rf_s, g_istore_n, v_callV1, g_istore, v_iload, g_icmp_gt, g_icmp_le, g_ireturn, v_iinc, g_goto, entL, getL, setL, kL_i, kL_r, isI_s, isR_s, isJ_s, gV_s, iV_i, cs0, cs1, cs2, cs3, cs4, dn_nil, kd_si, kd_sl, kd_sw, mr_si, mr_sl, mr_sw, ml_si, ml_sw, mi_sl, ↓if_pos e1, if_pos e1, retX_int]
    rfl
