-- ===== the model's parser: species lines =====
/-- a name that is not one yet -/
def nmX (T : Nat → Nat) (nm : Nat → Nat × (Nat → Nat)) (ns : Nat) (t : Tok) : PE Tok := if pNa T t = true then (match pKi T nm ns t with
  | some _ => .inl (4, t.1)
  | none => .inr t) else .inl (1, t.1)
section SN
variable (T : Nat → Nat) (n s : Nat) (nm : Nat → Nat × (Nat → Nat)) (t : Tok)
def sn3 : PE Tok := pB (so1 T n s t) (nmX T nm s)
def sn4 : PE Tok := pB (sn3 T n s nm t) fun t => .inr (tok T n t.2.1)
def sn5 : PE (Nat × Tok) := pB (sn4 T n s nm t) (pNm T n 8 1 30000)
def sn6 : PE (Nat × Tok) := pB (sdE (sn5 T n s nm t)) (pNm T n 9 0 999999)
def sn7 : PE (Nat × Tok) := pB (sdE (sn6 T n s nm t)) (pNm T n 10 1 3)
def sn8 : PE (Nat × Tok) := pB (sdE (sn7 T n s nm t)) (pNm T n 11 0 99)
end SN
theorem pSp_x {T : Nat → Nat} {n : Nat} {q : Ps} {t : Tok} : pSp T n q t = pB (sdE (sn8 T n q.ns q.nm t)) fun t' => .inr ((zu (zu (zu q.pl (8 + q.ns) (Int32.ofNat (vlE 1 (sn7 T n q.ns q.nm t)))) (12 + q.ns) (Int32.ofNat (vlE 0 (sn8 T n q.ns q.nm t)))) 7 (Int32.ofNat (q.ns + 1)), zu (zu q.dr (10 + q.ns) (Int32.ofNat (vlE 1 (sn5 T n q.ns q.nm t)))) (14 + q.ns) (Int32.ofNat (vlE 0 (sn6 T n q.ns q.nm t))), zu q.nm q.ns (tkT T (tok T n t.2.1)), q.ic, q.st, q.ns + 1, q.ni), t') := by
  unfold pSp sn8 sn7 sn6 sn5 sn4 sn3 so1 so0
  by_cases c : 4 ≤ q.ns
  · rw [if_pos c, if_pos c]
    rfl
  · rw [if_neg c, if_neg c]
    simp only [pB_r]
    unfold nmX
    cases pNa T (tok T n t.2.1) with
    | false => rfl
    | true =>
      simp only [if_true]
      cases pKi T q.nm q.ns (tok T n t.2.1) with
      | some k => rfl
      | none =>
        simp only [pB_r]
        cases pNm T n 8 1 30000 (tok T n (tok T n t.2.1).2.1) with
        | inl e => rfl
        | inr a0 =>
          simp only [pB_r, sd_r, vl_r]
          cases pNm T n 9 0 999999 a0.2 with
          | inl e => rfl
          | inr a1 =>
            simp only [pB_r, sd_r, vl_r]
            cases pNm T n 10 1 3 a1.2 with
            | inl e => rfl
            | inr a2 =>
              simp only [pB_r, sd_r, vl_r]
              cases pNm T n 11 0 99 a2.2 with
              | inl e => rfl
              | inr a3 => rfl
theorem sn_3 {T : Nat → Nat} {n s : Nat} {nm : Nat → Nat × (Nat → Nat)} {t t' : Tok} (e : sn3 T n s nm t = .inr t') : s < 4 ∧ t' = tok T n t.2.1 ∧ t'.2.2.1 = 2 := by
  unfold sn3 so1 so0 at e
  by_cases c : 4 ≤ s
  · rw [if_pos c] at e
    cases e
  · rw [if_neg c] at e
    simp only [pB_r] at e
    unfold nmX at e
    cases c1 : pNa T (tok T n t.2.1) with
    | false =>
      rw [c1, if_neg Bool.false_ne_true] at e
      cases e
    | true =>
      rw [c1, if_pos rfl] at e
      cases c2 : pKi T nm s (tok T n t.2.1) with
      | some k =>
        rw [c2] at e
        cases e
      | none =>
        rw [c2] at e
        have e : Sum.inr (tok T n t.2.1) = (Sum.inr t' : PE Tok) := e
        cases e
        unfold pNa at c1
        rw [Bool.and_eq_true] at c1
        exact ⟨by omega, rfl, of_decide_eq_true c1.2⟩
section MPC
variable {h : Mm} {n : Nat} {T : Nat → Nat} {F : Nat → Int32} {w : Int64} {N : Nat → Int64} {P D : Nat → Int32} {t : Tok} {q : Ps} {x : PE Tok}
/-- a name in hand: isName, kindHere -/
theorem nm_step (H : MO h) (B : MTO h n T) (W : WMD h) {ns : Nat} {nm : Nat → Nat × (Nat → Nat)} (M : MS F w n T (.inr t)) (c : pNa T t = true) (K : NMM N ns nm) : fnd (fun k => decide (N k = w)) ns 0 = pKi T nm ns t := by
  unfold pNa at c
  rw [Bool.and_eq_true] at c
  have c2 := of_decide_eq_true c.2
  have ew := M.1.2.2.2.2.2 c2
  rw [ew]
  exact nm_fnd (ms_le M c2) K
theorem oI_n {o : Option Nat} {m : Nat} (hm : m ≤ 4) (h : ∀ k, o = some k → k < m) : oI o = -1 ↔ o = none := by
  cases o with
  | none => exact ⟨fun _ => rfl, fun _ => rfl⟩
  | some k =>
    refine ⟨fun q => ?_, fun q => by cases q⟩
    have hk := h k rfl
    have q : Int32.ofNat k = -1 := q
    have := congrArg Int32.toInt q
    rw [i32_toInt (by omega), show (-1 : Int32).toInt = -1 from by decide] at this
    omega
theorem R_336 : PG.2.1 336 = none := rfl
theorem f_336 (H : MO h) (B : MTO h n T) (W : WMD h) (M : MS F w n T (.inr t)) (C : MRw q F N P D) : ∃ F0 w0, dM PG 336 [.ref 277] ((h.mb N P D).mt F w) = dB PG 336 47 [some (.ref 277), some (.int (Int32.ofNat q.ns))] [] ((h.mb N P D).mt F0 w0) ∧ MS F0 w0 n T (sn3 T n q.ns q.nm t) ∧ keepF F F0 := by
  obtain ⟨⟨i1, i2, i3, i4, i5, i6⟩, cP, cD, cN, c23, cz⟩ := C
  have p7 : P 7 = Int32.ofNat q.ns := by rw [cP 7 (by decide), i5]
  have g9 : ∀ F w, dM PG 359 [.ref 277] ((h.mb N P D).mt F w) = some (.inl (some (.int (oI (fnd (fun k => decide (N k = w)) q.ns 0)))), (h.mb N P D).mt F w) := fun F w => m_359 (h := h.mb N P D) H i2 p7
  have fl4 : ∀ w k, fnd (fun k => decide (N k = w)) q.ns 0 = some k → k < q.ns := fun w k e => by
    have := fnd_lt _ _ _ e
    omega
  unfold sn3 so1 so0
  by_cases c : 4 ≤ q.ns
  · have c4 : Int32.ofNat q.ns = 4 := by
      rw [show q.ns = 4 by omega]; rfl
    have g := m_297 (h := h.mb N P D) (x := 5) (w := w) H M.2.2.2.1
    have M1 := ms_rep (w' := w) (k := 5) (x := 5) M (by decide) (by decide)
    have n5 := ms_5 M1
    have g2 := m_294e (h := h.mb N P D) (w := w) H n5
    have g3 := s_358e (h := h.mb N P D) H M1
    have g4 := m_297e (h := h.mb N P D) (x := 1) (w := w) H n5
    have g5 := m_297e (h := h.mb N P D) (x := 4) (w := w) H n5
    have g9' := g9 (zu (zu F 5 5) 6 (F 8)) w
    rw [if_pos c]
    refine ⟨_, _, ?_, M1, kf_rep⟩
    rw [dM_of (Nat.le_of_ble_eq_true rfl)]
    by_cases co : oI (fnd (fun k => decide (N k = w)) q.ns 0) = -1
    · simp -implicitDefEqProofs only [D_336_0, k_336_0, D_336_18, k_336_18, D_336_34, k_336_34, k_336_47, k_336_55, R_336, v_aload_n, g_getfield, sv_a, rf_s, g_getfieldS, g_bipush, v_iaload, inI_0, g_istore_n, v_iload_n, g_iconst, g_icmp_ne, v_callV2, aft_v, aft_n, v_callV1, g_if_ne, g_icmp_eq, sv_i, g_if_le, g_return, sv_j, v_lastore, inJ_0, g_iadd, g_ldc, g_sipush, v_callV4, v_iastore, wrI_0, g_dup2, entL, getL, setL, kL_i, kL_r, isI_s, isR_s, isJ_s, gV_s, iV_i, cs0, cs1, cs2, cs3, cs4, dn_nil, kd_si, kd_sl, kd_sw, mr_si, mr_sl, mr_sw, ml_si, ml_sw, mi_sl, mk_277 H, mk_278 H, mk_279 H, mk_280 H, mk_281 H, mk_282 H, mk_283 H, mk_284 H, mk_285 H, mk_286 H, mk_287 H, mk_288 H, mk_289 H, mr_1 H, mr_11 H, mr_12 H, mr_13 H, mr_14 H, mr_15 H, mr_16 H, mr_17 H, mr_18 H, mr_19 H, mr_24 H, mr_25 H, mt_k, mt_r, mb_k, mb_r, ip_0, ip_1, ip_2, ip_3, ip_4, ip_5, ip_6, ip_7, ip_8, ip_9, ip_10, ip_11, ip_12, ip_13, ip_14, ip_15, ip_16, ip_17, ip_18, ip_19, ip_20, ip_21, ip_22, ip_23, ip_24, ip_25, ix_0, ix_1, ix_2, ix_3, ix_4, ix_5, ix_6, ix_7, ix_8, ix_9, ix_10, ix_11, ix_12, ix_13, ix_14, ix_15, ix_16, ix_17, ix_18, ix_19, ix_20, ix_21, ix_22, ix_23, ix_24, ix_25, mq_P, p7, ↓if_pos c4, if_pos c4, g, g2, g3, ↓if_true, if_true, g4, g9', ↓if_pos co, if_pos co]
    · simp -implicitDefEqProofs only [D_336_0, k_336_0, D_336_18, k_336_18, D_336_34, k_336_34, k_336_47, k_336_55, R_336, v_aload_n, g_getfield, sv_a, rf_s, g_getfieldS, g_bipush, v_iaload, inI_0, g_istore_n, v_iload_n, g_iconst, g_icmp_ne, v_callV2, aft_v, aft_n, v_callV1, g_if_ne, g_icmp_eq, sv_i, g_if_le, g_return, sv_j, v_lastore, inJ_0, g_iadd, g_ldc, g_sipush, v_callV4, v_iastore, wrI_0, g_dup2, entL, getL, setL, kL_i, kL_r, isI_s, isR_s, isJ_s, gV_s, iV_i, cs0, cs1, cs2, cs3, cs4, dn_nil, kd_si, kd_sl, kd_sw, mr_si, mr_sl, mr_sw, ml_si, ml_sw, mi_sl, mk_277 H, mk_278 H, mk_279 H, mk_280 H, mk_281 H, mk_282 H, mk_283 H, mk_284 H, mk_285 H, mk_286 H, mk_287 H, mk_288 H, mk_289 H, mr_1 H, mr_11 H, mr_12 H, mr_13 H, mr_14 H, mr_15 H, mr_16 H, mr_17 H, mr_18 H, mr_19 H, mr_24 H, mr_25 H, mt_k, mt_r, mb_k, mb_r, ip_0, ip_1, ip_2, ip_3, ip_4, ip_5, ip_6, ip_7, ip_8, ip_9, ip_10, ip_11, ip_12, ip_13, ip_14, ip_15, ip_16, ip_17, ip_18, ip_19, ip_20, ip_21, ip_22, ip_23, ip_24, ip_25, ix_0, ix_1, ix_2, ix_3, ix_4, ix_5, ix_6, ix_7, ix_8, ix_9, ix_10, ix_11, ix_12, ix_13, ix_14, ix_15, ix_16, ix_17, ix_18, ix_19, ix_20, ix_21, ix_22, ix_23, ix_24, ix_25, mq_P, p7, ↓if_pos c4, if_pos c4, g, g2, g3, ↓if_true, if_true, g4, g9', ↓if_neg co, if_neg co, g5]
  · have c4 : ¬ Int32.ofNat q.ns = 4 := by
      show ¬ Int32.ofNat q.ns = Int32.ofNat 4
      exact i32_ne (by omega) (by omega) (by omega)
    rw [if_neg c]
    simp only [pB_r]
    obtain ⟨F1, w1, g1, M1, k1⟩ := s_294 (h := h.mb N P D) H (mb_to B) M
    have g2 := s_358 (h := h.mb N P D) H (mb_to B) (mb_wm W) M1
    have g9' := g9 F1 w1
    unfold nmX
    cases cn : pNa T (tok T n t.2.1) with
    | false =>
      rw [cn, b2i_0] at g2
      rw [if_neg Bool.false_ne_true]
      have g3 := m_297 (h := h.mb N P D) (x := 1) (w := w1) H M1.2.2.2.1
      have M2 := ms_rep (w' := w1) (k := 1) (x := 1) M1 (by decide) (by decide)
      have g5 := m_297e (h := h.mb N P D) (x := 4) (w := w1) H (ms_5 M2)
      have g9'' := g9 (zu (zu F1 5 1) 6 (F1 8)) w1
      refine ⟨_, _, ?_, M2, k1.tr kf_rep⟩
      rw [dM_of (Nat.le_of_ble_eq_true rfl)]
      by_cases co : oI (fnd (fun k => decide (N k = w1)) q.ns 0) = -1
      · simp -implicitDefEqProofs only [D_336_0, k_336_0, D_336_18, k_336_18, D_336_34, k_336_34, k_336_47, k_336_55, R_336, v_aload_n, g_getfield, sv_a, rf_s, g_getfieldS, g_bipush, v_iaload, inI_0, g_istore_n, v_iload_n, g_iconst, g_icmp_ne, v_callV2, aft_v, aft_n, v_callV1, g_if_ne, g_icmp_eq, sv_i, g_if_le, g_return, sv_j, v_lastore, inJ_0, g_iadd, g_ldc, g_sipush, v_callV4, v_iastore, wrI_0, g_dup2, entL, getL, setL, kL_i, kL_r, isI_s, isR_s, isJ_s, gV_s, iV_i, cs0, cs1, cs2, cs3, cs4, dn_nil, kd_si, kd_sl, kd_sw, mr_si, mr_sl, mr_sw, ml_si, ml_sw, mi_sl, mk_277 H, mk_278 H, mk_279 H, mk_280 H, mk_281 H, mk_282 H, mk_283 H, mk_284 H, mk_285 H, mk_286 H, mk_287 H, mk_288 H, mk_289 H, mr_1 H, mr_11 H, mr_12 H, mr_13 H, mr_14 H, mr_15 H, mr_16 H, mr_17 H, mr_18 H, mr_19 H, mr_24 H, mr_25 H, mt_k, mt_r, mb_k, mb_r, ip_0, ip_1, ip_2, ip_3, ip_4, ip_5, ip_6, ip_7, ip_8, ip_9, ip_10, ip_11, ip_12, ip_13, ip_14, ip_15, ip_16, ip_17, ip_18, ip_19, ip_20, ip_21, ip_22, ip_23, ip_24, ip_25, ix_0, ix_1, ix_2, ix_3, ix_4, ix_5, ix_6, ix_7, ix_8, ix_9, ix_10, ix_11, ix_12, ix_13, ix_14, ix_15, ix_16, ix_17, ix_18, ix_19, ix_20, ix_21, ix_22, ix_23, ix_24, ix_25, mq_P, p7, ↓if_neg c4, if_neg c4, g1, g2, ↓if_true, if_true, g3, g9'', ↓if_pos co, if_pos co]
      · simp -implicitDefEqProofs only [D_336_0, k_336_0, D_336_18, k_336_18, D_336_34, k_336_34, k_336_47, k_336_55, R_336, v_aload_n, g_getfield, sv_a, rf_s, g_getfieldS, g_bipush, v_iaload, inI_0, g_istore_n, v_iload_n, g_iconst, g_icmp_ne, v_callV2, aft_v, aft_n, v_callV1, g_if_ne, g_icmp_eq, sv_i, g_if_le, g_return, sv_j, v_lastore, inJ_0, g_iadd, g_ldc, g_sipush, v_callV4, v_iastore, wrI_0, g_dup2, entL, getL, setL, kL_i, kL_r, isI_s, isR_s, isJ_s, gV_s, iV_i, cs0, cs1, cs2, cs3, cs4, dn_nil, kd_si, kd_sl, kd_sw, mr_si, mr_sl, mr_sw, ml_si, ml_sw, mi_sl, mk_277 H, mk_278 H, mk_279 H, mk_280 H, mk_281 H, mk_282 H, mk_283 H, mk_284 H, mk_285 H, mk_286 H, mk_287 H, mk_288 H, mk_289 H, mr_1 H, mr_11 H, mr_12 H, mr_13 H, mr_14 H, mr_15 H, mr_16 H, mr_17 H, mr_18 H, mr_19 H, mr_24 H, mr_25 H, mt_k, mt_r, mb_k, mb_r, ip_0, ip_1, ip_2, ip_3, ip_4, ip_5, ip_6, ip_7, ip_8, ip_9, ip_10, ip_11, ip_12, ip_13, ip_14, ip_15, ip_16, ip_17, ip_18, ip_19, ip_20, ip_21, ip_22, ip_23, ip_24, ip_25, ix_0, ix_1, ix_2, ix_3, ix_4, ix_5, ix_6, ix_7, ix_8, ix_9, ix_10, ix_11, ix_12, ix_13, ix_14, ix_15, ix_16, ix_17, ix_18, ix_19, ix_20, ix_21, ix_22, ix_23, ix_24, ix_25, mq_P, p7, ↓if_neg c4, if_neg c4, g1, g2, ↓if_true, if_true, g3, g9'', ↓if_neg co, if_neg co, g5]
    | true =>
      rw [cn, b2i_1] at g2
      rw [if_pos rfl]
      have en := nm_step (h := h.mb N P D) H (mb_to B) (mb_wm W) M1 cn cN
      cases ck : pKi T q.nm q.ns (tok T n t.2.1) with
      | some k =>
        have co : ¬ oI (fnd (fun k => decide (N k = w1)) q.ns 0) = -1 := fun z => by
          have := (oI_n i2 (fl4 w1)).mp z
          rw [en, ck] at this
          cases this
        have g3 := m_297 (h := h.mb N P D) (x := 4) (w := w1) H M1.2.2.2.1
        have M2 := ms_rep (w' := w1) (k := 4) (x := 4) M1 (by decide) (by decide)
        refine ⟨_, _, ?_, M2, k1.tr kf_rep⟩
        rw [dM_of (Nat.le_of_ble_eq_true rfl)]
        simp -implicitDefEqProofs only [D_336_0, k_336_0, D_336_18, k_336_18, D_336_34, k_336_34, k_336_47, k_336_55, R_336, v_aload_n, g_getfield, sv_a, rf_s, g_getfieldS, g_bipush, v_iaload, inI_0, g_istore_n, v_iload_n, g_iconst, g_icmp_ne, v_callV2, aft_v, aft_n, v_callV1, g_if_ne, g_icmp_eq, sv_i, g_if_le, g_return, sv_j, v_lastore, inJ_0, g_iadd, g_ldc, g_sipush, v_callV4, v_iastore, wrI_0, g_dup2, entL, getL, setL, kL_i, kL_r, isI_s, isR_s, isJ_s, gV_s, iV_i, cs0, cs1, cs2, cs3, cs4, dn_nil, kd_si, kd_sl, kd_sw, mr_si, mr_sl, mr_sw, ml_si, ml_sw, mi_sl, mk_277 H, mk_278 H, mk_279 H, mk_280 H, mk_281 H, mk_282 H, mk_283 H, mk_284 H, mk_285 H, mk_286 H, mk_287 H, mk_288 H, mk_289 H, mr_1 H, mr_11 H, mr_12 H, mr_13 H, mr_14 H, mr_15 H, mr_16 H, mr_17 H, mr_18 H, mr_19 H, mr_24 H, mr_25 H, mt_k, mt_r, mb_k, mb_r, ip_0, ip_1, ip_2, ip_3, ip_4, ip_5, ip_6, ip_7, ip_8, ip_9, ip_10, ip_11, ip_12, ip_13, ip_14, ip_15, ip_16, ip_17, ip_18, ip_19, ip_20, ip_21, ip_22, ip_23, ip_24, ip_25, ix_0, ix_1, ix_2, ix_3, ix_4, ix_5, ix_6, ix_7, ix_8, ix_9, ix_10, ix_11, ix_12, ix_13, ix_14, ix_15, ix_16, ix_17, ix_18, ix_19, ix_20, ix_21, ix_22, ix_23, ix_24, ix_25, mq_P, p7, ↓if_neg c4, if_neg c4, g1, g2, ↓if_neg z_1, if_neg z_1, g9', ↓if_neg co, if_neg co, g3]
      | none =>
        have co : oI (fnd (fun k => decide (N k = w1)) q.ns 0) = -1 := (oI_n i2 (fl4 w1)).mpr (by rw [en, ck])
        refine ⟨F1, w1, ?_, M1, k1⟩
        rw [dM_of (Nat.le_of_ble_eq_true rfl)]
        simp -implicitDefEqProofs only [D_336_0, k_336_0, D_336_18, k_336_18, D_336_34, k_336_34, k_336_47, k_336_55, R_336, v_aload_n, g_getfield, sv_a, rf_s, g_getfieldS, g_bipush, v_iaload, inI_0, g_istore_n, v_iload_n, g_iconst, g_icmp_ne, v_callV2, aft_v, aft_n, v_callV1, g_if_ne, g_icmp_eq, sv_i, g_if_le, g_return, sv_j, v_lastore, inJ_0, g_iadd, g_ldc, g_sipush, v_callV4, v_iastore, wrI_0, g_dup2, entL, getL, setL, kL_i, kL_r, isI_s, isR_s, isJ_s, gV_s, iV_i, cs0, cs1, cs2, cs3, cs4, dn_nil, kd_si, kd_sl, kd_sw, mr_si, mr_sl, mr_sw, ml_si, ml_sw, mi_sl, mk_277 H, mk_278 H, mk_279 H, mk_280 H, mk_281 H, mk_282 H, mk_283 H, mk_284 H, mk_285 H, mk_286 H, mk_287 H, mk_288 H, mk_289 H, mr_1 H, mr_11 H, mr_12 H, mr_13 H, mr_14 H, mr_15 H, mr_16 H, mr_17 H, mr_18 H, mr_19 H, mr_24 H, mr_25 H, mt_k, mt_r, mb_k, mb_r, ip_0, ip_1, ip_2, ip_3, ip_4, ip_5, ip_6, ip_7, ip_8, ip_9, ip_10, ip_11, ip_12, ip_13, ip_14, ip_15, ip_16, ip_17, ip_18, ip_19, ip_20, ip_21, ip_22, ip_23, ip_24, ip_25, ix_0, ix_1, ix_2, ix_3, ix_4, ix_5, ix_6, ix_7, ix_8, ix_9, ix_10, ix_11, ix_12, ix_13, ix_14, ix_15, ix_16, ix_17, ix_18, ix_19, ix_20, ix_21, ix_22, ix_23, ix_24, ix_25, mq_P, p7, ↓if_neg c4, if_neg c4, g1, g2, ↓if_neg z_1, if_neg z_1, g9', ↓if_pos co, if_pos co]
theorem s_336 (H : MO h) (B : MTO h n T) (W : WMD h) (M : MS F w n T (.inr t)) (C : MRw q F N P D) : okM1 h n T F (pSp T n q t) (dM PG 336 [.ref 277] ((h.mb N P D).mt F w)) := by
  obtain ⟨F0, w0, ed, M0, k0⟩ := f_336 H B W M C
  obtain ⟨⟨i1, i2, i3, i4, i5, i6⟩, cP, cD, cN, c23, cz⟩ := C
  have p7 : P 7 = Int32.ofNat q.ns := by rw [cP 7 (by decide), i5]
  rw [pSp_x]
  cases x3 : sn3 T n q.ns q.nm t with
  | inl e =>
    rw [x3] at M0
    have n5 := ms_5 M0
    have z8 : sdE (sn8 T n q.ns q.nm t) = .inl e := by
      unfold sn8 sn7 sn6 sn5 sn4
      rw [x3]
      rfl
    rw [z8, pB_l]
    refine ⟨F0, w0, N, P, D, ?_, keepG.of k0, M0, ⟨q.ns, i2, p7⟩, ⟨q.ni, i3, ?_⟩⟩
    · rw [ed, D_336_47]
      simp -implicitDefEqProofs only [k_336_0, k_336_18, k_336_34, k_336_47, k_336_55, R_336, v_aload_n, g_getfield, sv_a, rf_s, g_getfieldS, g_bipush, v_iaload, inI_0, g_istore_n, v_iload_n, g_iconst, g_icmp_ne, v_callV2, aft_v, aft_n, v_callV1, g_if_ne, g_icmp_eq, sv_i, g_if_le, g_return, sv_j, v_lastore, inJ_0, g_iadd, g_ldc, g_sipush, v_callV4, v_iastore, wrI_0, g_dup2, entL, getL, setL, kL_i, kL_r, isI_s, isR_s, isJ_s, gV_s, iV_i, cs0, cs1, cs2, cs3, cs4, dn_nil, kd_si, kd_sl, kd_sw, mr_si, mr_sl, mr_sw, ml_si, ml_sw, mi_sl, mk_277 H, mk_278 H, mk_279 H, mk_280 H, mk_281 H, mk_282 H, mk_283 H, mk_284 H, mk_285 H, mk_286 H, mk_287 H, mk_288 H, mk_289 H, mr_1 H, mr_11 H, mr_12 H, mr_13 H, mr_14 H, mr_15 H, mr_16 H, mr_17 H, mr_18 H, mr_19 H, mr_24 H, mr_25 H, mt_k, mt_r, mb_k, mb_r, mt_f, ↓if_neg n5, if_neg n5]
    · rw [cD 9 (by decide), i6]
  | inr t3 =>
  obtain ⟨s4, et, kt⟩ := sn_3 x3
  rw [x3] at M0
  have f5 : F0 5 = 0 := M0.2.2.2.1
  have z : (0 : Int32) ≤ 0 := by decide
  have L3 := ms_le M0 kt
  have ew : w0 = Int64.ofNat (pkN (tkT T t3)) := by
    rw [← wdF_pk L3]
    exact M0.1.2.2.2.2.2 kt
  obtain ⟨F4, w4, g4, M4, k4⟩ := s_294 (h := h.mb (zu N q.ns w0) P D) H (mb_to B) M0
  have x4 : sn4 T n q.ns q.nm t = .inr (tok T n t3.2.1) := by
    unfold sn4
    rw [x3]
    rfl
  rw [← x4] at M4
  obtain ⟨F5, w5, g5, M5, k5⟩ := s_332 (h := h.mb (zu N q.ns w0) (P) (D)) (p := 26) (i := 8) (lo := 1) (hi := 30000) H (mb_to B) (mb_wm W) M4 rfl (by decide) (by decide) (by decide)
  have M5 : MS F5 w5 n T (sdE (sn5 T n q.ns q.nm t)) := M5
  have g5 : dM PG 332 [.ref 277, .ref 26, .int 1, .int 30000] ((h.mb (zu N q.ns w0) (P) (D)).mt F4 w4) = some (.inl (some (.int (Int32.ofNat (vlE 1 (sn5 T n q.ns q.nm t))))), (h.mb (zu N q.ns w0) (P) (D)).mt F5 w5) := g5
  obtain ⟨v5, e5⟩ : ∃ v, v = Int32.ofNat (vlE 1 (sn5 T n q.ns q.nm t)) := ⟨_, rfl⟩
  rw [← e5] at g5
  obtain ⟨F6, w6, g6, M6, k6⟩ := s_332 (h := h.mb (zu N q.ns w0) (P) (zu D (10 + q.ns) v5)) (p := 28) (i := 9) (lo := 0) (hi := 999999) H (mb_to B) (mb_wm W) M5 rfl (by decide) (by decide) (by decide)
  have M6 : MS F6 w6 n T (sdE (sn6 T n q.ns q.nm t)) := M6
  have g6 : dM PG 332 [.ref 277, .ref 28, .int 0, .int 999999] ((h.mb (zu N q.ns w0) (P) (zu D (10 + q.ns) v5)).mt F5 w5) = some (.inl (some (.int (Int32.ofNat (vlE 0 (sn6 T n q.ns q.nm t))))), (h.mb (zu N q.ns w0) (P) (zu D (10 + q.ns) v5)).mt F6 w6) := g6
  obtain ⟨v6, e6⟩ : ∃ v, v = Int32.ofNat (vlE 0 (sn6 T n q.ns q.nm t)) := ⟨_, rfl⟩
  rw [← e6] at g6
  obtain ⟨F7, w7, g7, M7, k7⟩ := s_332 (h := h.mb (zu N q.ns w0) (P) (zu (zu D (10 + q.ns) v5) (14 + q.ns) v6)) (p := 30) (i := 10) (lo := 1) (hi := 3) H (mb_to B) (mb_wm W) M6 rfl (by decide) (by decide) (by decide)
  have M7 : MS F7 w7 n T (sdE (sn7 T n q.ns q.nm t)) := M7
  have g7 : dM PG 332 [.ref 277, .ref 30, .int 1, .int 3] ((h.mb (zu N q.ns w0) (P) (zu (zu D (10 + q.ns) v5) (14 + q.ns) v6)).mt F6 w6) = some (.inl (some (.int (Int32.ofNat (vlE 1 (sn7 T n q.ns q.nm t))))), (h.mb (zu N q.ns w0) (P) (zu (zu D (10 + q.ns) v5) (14 + q.ns) v6)).mt F7 w7) := g7
  obtain ⟨v7, e7⟩ : ∃ v, v = Int32.ofNat (vlE 1 (sn7 T n q.ns q.nm t)) := ⟨_, rfl⟩
  rw [← e7] at g7
  obtain ⟨F8, w8, g8, M8, k8⟩ := s_332 (h := h.mb (zu N q.ns w0) (zu P (8 + q.ns) v7) (zu (zu D (10 + q.ns) v5) (14 + q.ns) v6)) (p := 32) (i := 11) (lo := 0) (hi := 99) H (mb_to B) (mb_wm W) M7 rfl (by decide) (by decide) (by decide)
  have M8 : MS F8 w8 n T (sdE (sn8 T n q.ns q.nm t)) := M8
  have g8 : dM PG 332 [.ref 277, .ref 32, .int 0, .int 99] ((h.mb (zu N q.ns w0) (zu P (8 + q.ns) v7) (zu (zu D (10 + q.ns) v5) (14 + q.ns) v6)).mt F7 w7) = some (.inl (some (.int (Int32.ofNat (vlE 0 (sn8 T n q.ns q.nm t))))), (h.mb (zu N q.ns w0) (zu P (8 + q.ns) v7) (zu (zu D (10 + q.ns) v5) (14 + q.ns) v6)).mt F8 w8) := g8
  obtain ⟨v8, e8⟩ : ∃ v, v = Int32.ofNat (vlE 0 (sn8 T n q.ns q.nm t)) := ⟨_, rfl⟩
  rw [← e8] at g8
  have kk : keepF F F8 := ((((k0.tr k4).tr k5).tr k6).tr k7).tr k8
  have a10 : (10 : Int32) + Int32.ofNat q.ns = Int32.ofNat (10 + q.ns) := i32_add (a := 10)
  have a14 : (14 : Int32) + Int32.ofNat q.ns = Int32.ofNat (14 + q.ns) := i32_add (a := 14)
  have a8 : (8 : Int32) + Int32.ofNat q.ns = Int32.ofNat (8 + q.ns) := i32_add (a := 8)
  have a12 : (12 : Int32) + Int32.ofNat q.ns = Int32.ofNat (12 + q.ns) := i32_add (a := 12)
  have b_1 : inb (Int32.ofNat (10 + q.ns)) 1168 = true := inb_nat (by omega) (by decide)
  have n_1 : (Int32.ofNat (10 + q.ns)).toNatClampNeg = 10 + q.ns := i32_nat (by omega)
  have b_2 : inb (Int32.ofNat (14 + q.ns)) 1168 = true := inb_nat (by omega) (by decide)
  have n_2 : (Int32.ofNat (14 + q.ns)).toNatClampNeg = 14 + q.ns := i32_nat (by omega)
  have b_3 : inb (Int32.ofNat (8 + q.ns)) 26 = true := inb_nat (by omega) (by decide)
  have n_3 : (Int32.ofNat (8 + q.ns)).toNatClampNeg = 8 + q.ns := i32_nat (by omega)
  have b_4 : inb (Int32.ofNat (12 + q.ns)) 26 = true := inb_nat (by omega) (by decide)
  have n_4 : (Int32.ofNat (12 + q.ns)).toNatClampNeg = 12 + q.ns := i32_nat (by omega)
  have b_5 : inb (Int32.ofNat (q.ns)) 4 = true := inb_nat (by omega) (by decide)
  have n_5 : (Int32.ofNat (q.ns)).toNatClampNeg = q.ns := i32_nat (by omega)
  have s1 : Int32.ofNat (q.ns) + 1 = Int32.ofNat (q.ns + 1) := i32_add (b := 1)
  have p7' : zu (zu P (8 + q.ns) v7) (12 + q.ns) v8 7 = Int32.ofNat q.ns := by rw [zu_o (by omega), zu_o (by omega), p7]
  refine ⟨F8, w8, zu N q.ns w0, zu (zu (zu P (8 + q.ns) v7) (12 + q.ns) v8) 7 (Int32.ofNat (q.ns + 1)), zu (zu D (10 + q.ns) v5) (14 + q.ns) v6, ?_, keepG.of kk, ?_⟩
  · rw [ed, D_336_47]
    simp -implicitDefEqProofs only [k_336_0, k_336_18, k_336_34, k_336_47, D_336_55, k_336_55, R_336, v_aload_n, g_getfield, sv_a, rf_s, g_getfieldS, g_bipush, v_iaload, inI_0, g_istore_n, v_iload_n, g_iconst, g_icmp_ne, v_callV2, aft_v, aft_n, v_callV1, g_if_ne, g_icmp_eq, sv_i, g_if_le, g_return, sv_j, v_lastore, inJ_0, g_iadd, g_ldc, g_sipush, v_callV4, v_iastore, wrI_0, g_dup2, entL, getL, setL, kL_i, kL_r, isI_s, isR_s, isJ_s, gV_s, iV_i, cs0, cs1, cs2, cs3, cs4, dn_nil, kd_si, kd_sl, kd_sw, mr_si, mr_sl, mr_sw, ml_si, ml_sw, mi_sl, mk_277 H, mk_278 H, mk_279 H, mk_280 H, mk_281 H, mk_282 H, mk_283 H, mk_284 H, mk_285 H, mk_286 H, mk_287 H, mk_288 H, mk_289 H, mr_1 H, mr_11 H, mr_12 H, mr_13 H, mr_14 H, mr_15 H, mr_16 H, mr_17 H, mr_18 H, mr_19 H, mr_24 H, mr_25 H, mt_k, mt_r, mb_k, mb_r, mt_f, mt_w, mq_P, qw_P, qw_D, qw_N, f5, ↓if_pos z, if_pos z, g4, g5, g6, g7, g8, a10, a14, a8, a12, b_1, n_1, b_2, n_2, b_3, n_3, b_4, n_4, b_5, n_5, ip_0, ip_1, ip_2, ip_3, ip_4, ip_5, ip_6, ip_7, ip_8, ip_9, ip_10, ip_11, ip_12, ip_13, ip_14, ip_15, ip_16, ip_17, ip_18, ip_19, ip_20, ip_21, ip_22, ip_23, ip_24, ip_25, ix_0, ix_1, ix_2, ix_3, ix_4, ix_5, ix_6, ix_7, ix_8, ix_9, ix_10, ix_11, ix_12, ix_13, ix_14, ix_15, ix_16, ix_17, ix_18, ix_19, ix_20, ix_21, ix_22, ix_23, ix_24, ix_25, p7', s1]
  · generalize hx : sdE (sn8 T n q.ns q.nm t) = x8 at M8
    cases x8 with
    | inl e =>
      rw [pB_l]
      refine ⟨M8, ⟨q.ns + 1, s4, zu_same⟩, ⟨q.ni, i3, ?_⟩⟩
      rw [zu_o (by omega), zu_o (by omega), cD 9 (by decide), i6]
    | inr t' =>
      rw [pB_r, ← e5, ← e6, ← e7, ← e8]
      have z7 : zu (zu (zu q.pl (8 + q.ns) v7) (12 + q.ns) v8) 7 (Int32.ofNat (q.ns + 1)) 7 = Int32.ofNat (q.ns + 1) := zu_same
      refine ⟨M8, ⟨i1, s4, i3, ?_, z7, ?_⟩, fun k hk => ?_, fun k hk => ?_, fun k hk => ?_, (kk 23 (by omega)).trans c23, fun j a b => ?_⟩
      · show zu (zu (zu q.pl (8 + q.ns) v7) (12 + q.ns) v8) 7 (Int32.ofNat (q.ns + 1)) 16 = _
        rw [zu_o (by decide), zu_o (by omega), zu_o (by omega)]
        exact i4
      · show zu (zu q.dr (10 + q.ns) v5) (14 + q.ns) v6 9 = _
        rw [zu_o (by omega), zu_o (by omega)]
        exact i6
      · show zu (zu (zu P (8 + q.ns) v7) (12 + q.ns) v8) 7 (Int32.ofNat (q.ns + 1)) k = zu (zu (zu q.pl (8 + q.ns) v7) (12 + q.ns) v8) 7 (Int32.ofNat (q.ns + 1)) k
        unfold zu
        rw [cP k hk]
      · show zu (zu D (10 + q.ns) v5) (14 + q.ns) v6 k = zu (zu q.dr (10 + q.ns) v5) (14 + q.ns) v6 k
        unfold zu
        rw [cD k hk]
      · show zu N q.ns w0 k = Int64.ofNat (pkN (zu q.nm q.ns (tkT T (tok T n t.2.1)) k)) ∧ nmO (zu q.nm q.ns (tkT T (tok T n t.2.1)) k)
        have hk : k < q.ns + 1 := hk
        by_cases c : k = q.ns
        · rw [c, zu_same, zu_same, ← et]
          exact ⟨ew, tkT_ok L3⟩
        · rw [zu_o c, zu_o c]
          exact cN k (by omega)
      · show zu (zu q.dr (10 + q.ns) v5) (14 + q.ns) v6 j = 0
        have a : 368 + 4 * q.ni ≤ j := a
        rw [zu_o (by omega), zu_o (by omega)]
        exact cz j a b
end MPC
