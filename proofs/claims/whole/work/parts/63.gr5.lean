-- ===== the grader: the choice of a place =====
theorem R_247 : PG.2.1 247 = (some (.object "FishGrader$Kind")) := rfl
theorem m_247 {u k : Nat} (hk : k < 4) {h : Mm} (U : SU h u) : dM PG 247 [.ref u, .int (Int32.ofNat k)] h = some (.inl (some (.ref (u + 3 + k))), h) := by
  rw [dM_of (Nat.le_of_ble_eq_true rfl)]
  have hc : k = 0 ∨ k = 1 ∨ k = 2 ∨ k = 3 := by omega
  rcases hc with rfl | rfl | rfl | rfl
  · have t : swT 1 42 0 2 #[27, 32, 37] (Int32.ofNat 0) = 28 := by decide
    simp -implicitDefEqProofs only [D_247_0, k_247_0, D_247_28, k_247_28, v_iload_n, g_tsw, v_aload_n, g_getfield, sv_o, rf_s, g_areturn, entL, getL, setL, kL_i, kL_r, isI_s, isR_s, isJ_s, gV_s, iV_i, cs0, cs1, cs2, cs3, cs4, dn_nil, kd_si, kd_sl, kd_sw, mr_si, mr_sl, mr_sw, ml_si, ml_sw, mi_sl, su_k U, su_r12 U, t]
  · have t : swT 1 42 0 2 #[27, 32, 37] (Int32.ofNat 1) = 33 := by decide
    simp -implicitDefEqProofs only [D_247_0, k_247_0, D_247_33, k_247_33, v_iload_n, g_tsw, v_aload_n, g_getfield, sv_o, rf_s, g_areturn, entL, getL, setL, kL_i, kL_r, isI_s, isR_s, isJ_s, gV_s, iV_i, cs0, cs1, cs2, cs3, cs4, dn_nil, kd_si, kd_sl, kd_sw, mr_si, mr_sl, mr_sw, ml_si, ml_sw, mi_sl, su_k U, su_r13 U, t]
  · have t : swT 1 42 0 2 #[27, 32, 37] (Int32.ofNat 2) = 38 := by decide
    simp -implicitDefEqProofs only [D_247_0, k_247_0, D_247_38, k_247_38, v_iload_n, g_tsw, v_aload_n, g_getfield, sv_o, rf_s, g_areturn, entL, getL, setL, kL_i, kL_r, isI_s, isR_s, isJ_s, gV_s, iV_i, cs0, cs1, cs2, cs3, cs4, dn_nil, kd_si, kd_sl, kd_sw, mr_si, mr_sl, mr_sw, ml_si, ml_sw, mi_sl, su_k U, su_r14 U, t]
  · have t : swT 1 42 0 2 #[27, 32, 37] (Int32.ofNat 3) = 43 := by decide
    simp -implicitDefEqProofs only [D_247_0, k_247_0, D_247_43, k_247_43, v_iload_n, g_tsw, v_aload_n, g_getfield, sv_o, rf_s, g_areturn, entL, getL, setL, kL_i, kL_r, isI_s, isR_s, isJ_s, gV_s, iV_i, cs0, cs1, cs2, cs3, cs4, dn_nil, kd_si, kd_sl, kd_sw, mr_si, mr_sl, mr_sw, ml_si, ml_sw, mi_sl, su_k U, su_r15 U, t]
theorem su_kk {u k : Nat} (hk : k < 4) {h : Mm} (U : SU h u) : h.kd (u + 3 + k) = some (.inl 2) := by
  have hc : k = 0 ∨ k = 1 ∨ k = 2 ∨ k = 3 := by omega
  rcases hc with rfl | rfl | rfl | rfl
  · exact su_k3 U
  · exact su_k4 U
  · exact su_k5 U
  · exact su_k6 U
def gchF (R : Nat → Nat → Int32) (k : Nat) (w room : Int32) (nb : Nat) : Option Nat := match (ssGo R k (R 2 k - w) (R 2 k - w + R 0 2) nb 0 (none, 0)).1 with
  | some p => some p
  | none => match (prGo R k (R 2 k - w) nb 0 (none, 0)).1 with
    | some p => some p
    | none => if R 0 5 < room then none else (ssGo R k 0 2147483647 nb 0 (none, 0)).1
theorem ssGo_lt {R : Nat → Nat → Int32} {k : Nat} {lo hi : Int32} : ∀ (d q : Nat) (a : Option Nat × Int32), q + d ≤ 3 → (∀ c, a.1 = some c → c < 3) → ∀ c, (ssGo R k lo hi d q a).1 = some c → c < 3 := by
  intro d
  induction d with
  | zero => intro q a _ ha c e; exact ha c e
  | succ d ih =>
    intro q a hq ha c e
    refine ih (q + 1) (ssStep R k q lo hi a) (by omega) ?_ c e
    intro c ec
    unfold ssStep at ec
    split at ec
    · exact ha c ec
    · split at ec
      · obtain rfl := Option.some.inj ec; omega
      · exact ha c ec
theorem prGo_lt {R : Nat → Nat → Int32} {k : Nat} {be : Int32} : ∀ (d q : Nat) (a : Option Nat × Int32), q + d ≤ 3 → (∀ c, a.1 = some c → c < 3) → ∀ c, (prGo R k be d q a).1 = some c → c < 3 := by
  intro d
  induction d with
  | zero => intro q a _ ha c e; exact ha c e
  | succ d ih =>
    intro q a hq ha c e
    refine ih (q + 1) (prStep R k q be a) (by omega) ?_ c e
    intro c ec
    unfold prStep at ec
    split at ec
    · split at ec
      · obtain rfl := Option.some.inj ec; omega
      · exact ha c ec
    · exact ha c ec
theorem R_344 : PG.2.1 344 = (some .int) := rfl
theorem m_344 {b u k nb : Nat} (hub : u + 7 ≤ b) (hk : k < 4) (hn : nb ≤ 3) {w : Int32} {h : Mm} (T : ST h b) (U : SU h u) (hp : h.mi (u + 3 + k) 1 = Int32.ofNat nb) {R : Nat → Nat → Int32} : dM PG 344 [.ref b, .ref u, .int (Int32.ofNat k), .int w] (h.sb b R) = some (.inl (some (.int (oN (gchF R k w (h.mi u 2) nb)))), h.sb b R) := by
  rw [dM_of (Nat.le_of_ble_eq_true rfl)]
  have b_1 : inb (Int32.ofNat (k)) 4 = true := inb_nat (by omega) (by decide)
  have n_1 : (Int32.ofNat (k)).toNatClampNeg = k := i32_nat (by omega)
  have g0 := m_247 hk (SU_sb (b := b) (R := R) U)
  have e1 : (h.sb b R).mi (u + 3 + k) = h.mi (u + 3 + k) := mi_sbo (by omega)
  have e2 : (h.sb b R).mi u = h.mi u := mi_sbo (by omega)
  have g1 := m_364 (lo := R 2 k - w) (hi := R 2 k - w + R 0 2) hk hn T (R := R)
  have g2 := m_365 (be := R 2 k - w) hk hn T (R := R)
  have g3 := m_364 (lo := 0) (hi := 2147483647) hk hn T (R := R)
  have en0 : oN none = -1 := rfl
  cases q1 : (ssGo R k (R 2 k - w) (R 2 k - w + R 0 2) nb 0 (none, 0)).1 with
  | some p =>
    have hp3 := ssGo_lt nb 0 (none, 0) (by omega) (fun c e => by cases e) p q1
    have y : gchF R k w (h.mi u 2) nb = some p := by unfold gchF; rw [q1]
    have en : oN (some p) = Int32.ofNat p := rfl
    have en2 : ¬ Int32.ofNat p = -1 := oN_s (by omega)
    rw [y]
    simp -implicitDefEqProofs only [D_344_0, k_344_0, D_344_59, k_344_59, D_344_88, k_344_88, R_344, v_aload_n, v_iload_n, v_callV2, aft_v, aft_n, g_getfield, sv_i, rf_s, g_istore, sv_a, v_iaload, inI_0, v_iload, g_isub, g_iadd, v_callV5, g_iconst, g_icmp_ne, v_callV4, g_icmp_lt, g_ldc, g_ireturn, entL, getL, setL, kL_i, kL_r, isI_s, isR_s, isJ_s, gV_s, iV_i, cs0, cs1, cs2, cs3, cs4, dn_nil, kd_si, kd_sl, kd_sw, mr_si, mr_sl, mr_sw, ml_si, ml_sw, mi_sl, kd_sb, mr_sb, bm_0, bm_2, st_k T, st_r7 T, st_k2 T, su_k U, su_kk hk U, g0, e1, hp, b_1, n_1, g1, q1, en, if_neg en2, retX_int]
  | none =>
    cases q2 : (prGo R k (R 2 k - w) nb 0 (none, 0)).1 with
    | some p =>
      have hp3 := prGo_lt nb 0 (none, 0) (by omega) (fun c e => by cases e) p q2
      have y : gchF R k w (h.mi u 2) nb = some p := by unfold gchF; rw [q1]; dsimp only; rw [q2]
      have en : oN (some p) = Int32.ofNat p := rfl
      have en2 : ¬ Int32.ofNat p = -1 := oN_s (by omega)
      rw [y]
      simp -implicitDefEqProofs only [D_344_0, k_344_0, D_344_59, k_344_59, D_344_88, k_344_88, R_344, v_aload_n, v_iload_n, v_callV2, aft_v, aft_n, g_getfield, sv_i, rf_s, g_istore, sv_a, v_iaload, inI_0, v_iload, g_isub, g_iadd, v_callV5, g_iconst, g_icmp_ne, v_callV4, g_icmp_lt, g_ldc, g_ireturn, entL, getL, setL, kL_i, kL_r, isI_s, isR_s, isJ_s, gV_s, iV_i, cs0, cs1, cs2, cs3, cs4, dn_nil, kd_si, kd_sl, kd_sw, mr_si, mr_sl, mr_sw, ml_si, ml_sw, mi_sl, kd_sb, mr_sb, bm_0, bm_2, st_k T, st_r7 T, st_k2 T, su_k U, su_kk hk U, g0, e1, hp, b_1, n_1, g1, q1, g2, q2, en0, if_true, en, if_neg en2, retX_int]
    | none =>
      by_cases c : R 0 5 < h.mi u 2
      · have y : gchF R k w (h.mi u 2) nb = none := by unfold gchF; rw [q1]; dsimp only; rw [q2]; exact if_pos c
        rw [y]
        simp -implicitDefEqProofs only [D_344_0, k_344_0, D_344_59, k_344_59, D_344_88, k_344_88, R_344, v_aload_n, v_iload_n, v_callV2, aft_v, aft_n, g_getfield, sv_i, rf_s, g_istore, sv_a, v_iaload, inI_0, v_iload, g_isub, g_iadd, v_callV5, g_iconst, g_icmp_ne, v_callV4, g_icmp_lt, g_ldc, g_ireturn, entL, getL, setL, kL_i, kL_r, isI_s, isR_s, isJ_s, gV_s, iV_i, cs0, cs1, cs2, cs3, cs4, dn_nil, kd_si, kd_sl, kd_sw, mr_si, mr_sl, mr_sw, ml_si, ml_sw, mi_sl, kd_sb, mr_sb, bm_0, bm_2, st_k T, st_r7 T, st_k2 T, su_k U, su_kk hk U, g0, e1, e2, hp, b_1, n_1, g1, q1, g2, q2, en0, if_true, if_pos c, retX_int]
      · have y : gchF R k w (h.mi u 2) nb = (ssGo R k 0 2147483647 nb 0 (none, 0)).1 := by unfold gchF; rw [q1]; dsimp only; rw [q2]; exact if_neg c
        rw [y]
        simp -implicitDefEqProofs only [D_344_0, k_344_0, D_344_59, k_344_59, D_344_88, k_344_88, R_344, v_aload_n, v_iload_n, v_callV2, aft_v, aft_n, g_getfield, sv_i, rf_s, g_istore, sv_a, v_iaload, inI_0, v_iload, g_isub, g_iadd, v_callV5, g_iconst, g_icmp_ne, v_callV4, g_icmp_lt, g_ldc, g_ireturn, entL, getL, setL, kL_i, kL_r, isI_s, isR_s, isJ_s, gV_s, iV_i, cs0, cs1, cs2, cs3, cs4, dn_nil, kd_si, kd_sl, kd_sw, mr_si, mr_sl, mr_sw, ml_si, ml_sw, mi_sl, kd_sb, mr_sb, bm_0, bm_2, st_k T, st_r7 T, st_k2 T, su_k U, su_kk hk U, g0, e1, e2, hp, b_1, n_1, g1, q1, g2, q2, en0, if_true, if_neg c, g3, retX_int]
