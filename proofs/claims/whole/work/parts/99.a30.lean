-- ===== the model's parser: the whole text =====
section MPF
variable {h : Mm} {n : Nat} {T : Nat → Nat} {F : Nat → Int32} {w : Int64} {N : Nat → Int64} {P D : Nat → Int32} {t : Tok} {q : Ps} {x : PE Tok} {tl : Lc}
theorem ms_k4 (M : MS F w n T (.inr t)) : F 7 = 4 ↔ t.2.2.1 = 4 := by
  obtain ⟨⟨-, -, f7, -⟩, ⟨-, -, k5⟩, -⟩ := M
  rw [f7]
  have : t.2.2.1 = 0 ∨ t.2.2.1 = 1 ∨ t.2.2.1 = 2 ∨ t.2.2.1 = 3 ∨ t.2.2.1 = 4 := by omega
  rcases this with e | e | e | e | e <;> rw [e] <;> decide
theorem ms_k1 (M : MS F w n T (.inr t)) : F 7 = 1 ↔ t.2.2.1 = 0 := by
  obtain ⟨⟨-, -, f7, -⟩, ⟨-, -, k5⟩, -⟩ := M
  rw [f7]
  have : t.2.2.1 = 0 ∨ t.2.2.1 = 1 ∨ t.2.2.1 = 2 ∨ t.2.2.1 = 3 ∨ t.2.2.1 = 4 := by omega
  rcases this with e | e | e | e | e <;> rw [e] <;> decide
theorem ms_e0 {e : Nat × Nat} (M : MS F w n T (.inl e)) : ¬ F 5 = 0 := fun q => ms_5 M (by rw [q]; decide)
theorem R_227 : PG.2.1 227 = none := rfl
theorem l_227a (H : MO h) : ∃ tl', dB PG 227 2 (some (.ref 277) :: some (.int (Int32.ofNat 0)) :: []) [] ((h.mb N P D).mt F w) = dB PG 227 22 (some (.ref 277) :: some (.int (Int32.ofNat 1168)) :: tl') [] ((h.mb N P (cl0 1168 D)).mt F w) := by
  obtain ⟨tl, e⟩ := lm (P := PG) (y := 227) (pc := 2) (n := 1168) (o := 0) (h := fun k => (h.mb N P (cl0 k D)).mt F w) (L := fun k tl => some (.ref 277) :: some (.int (Int32.ofNat k)) :: tl) (by
    intro k tl _ hk
    refine ⟨tl, ?_⟩
    have z : ¬ (1168 : Int32) ≤ Int32.ofNat k := Int32.not_le.mpr (i32_lt_lit (b := 1168) (by decide) hk)
    have s1 : Int32.ofNat (k) + 1 = Int32.ofNat (k + 1) := i32_add (b := 1)
    have b_1 : inb (Int32.ofNat (k)) 1168 = true := inb_nat (by omega) (by decide)
    have n_1 : (Int32.ofNat (k)).toNatClampNeg = k := i32_nat (by omega)
    rw [D_227_2]
    simp -implicitDefEqProofs only [k_227_2, k_227_22, v_iload_n, g_sipush, g_icmp_ge, v_aload_n, g_getfield, sv_a, rf_s, g_getfieldS, g_iconst, v_iastore, wrI_0, v_iinc, g_goto, g_istore_n, entL, getL, setL, kL_i, kL_r, isI_s, isR_s, isJ_s, gV_s, iV_i, cs0, cs1, cs2, cs3, cs4, dn_nil, kd_si, kd_sl, kd_sw, mr_si, mr_sl, mr_sw, ml_si, ml_sw, mi_sl, mk_277 H, mk_278 H, mk_279 H, mk_280 H, mk_281 H, mk_282 H, mk_283 H, mk_284 H, mk_285 H, mk_286 H, mk_287 H, mk_288 H, mk_289 H, mr_1 H, mr_11 H, mr_12 H, mr_13 H, mr_14 H, mr_15 H, mr_16 H, mr_17 H, mr_18 H, mr_19 H, mr_24 H, mr_25 H, mt_k, mt_r, mb_k, mb_r, ↓if_neg z, if_neg z, b_1, n_1, qw_D, cl0_s, s1]) 1168 0 [] (Nat.zero_le 0) (by omega)
  have z : (1168 : Int32) ≤ Int32.ofNat 1168 := by decide
  refine ⟨tl, ?_⟩
  have e : dB PG 227 2 (some (.ref 277) :: some (.int (Int32.ofNat 0)) :: []) [] ((h.mb N P (cl0 0 D)).mt F w) = dB PG 227 2 (some (.ref 277) :: some (.int (Int32.ofNat 1168)) :: tl) [] ((h.mb N P (cl0 1168 D)).mt F w) := e
  rw [cl0_0] at e
  rw [e, D_227_2]
  simp -implicitDefEqProofs only [k_227_2, k_227_22, v_iload_n, g_sipush, g_icmp_ge, v_aload_n, g_getfield, sv_a, rf_s, g_getfieldS, g_iconst, v_iastore, wrI_0, v_iinc, g_goto, g_istore_n, entL, getL, setL, kL_i, kL_r, isI_s, isR_s, isJ_s, gV_s, iV_i, cs0, cs1, cs2, cs3, cs4, dn_nil, kd_si, kd_sl, kd_sw, mr_si, mr_sl, mr_sw, ml_si, ml_sw, mi_sl, mk_277 H, mk_278 H, mk_279 H, mk_280 H, mk_281 H, mk_282 H, mk_283 H, mk_284 H, mk_285 H, mk_286 H, mk_287 H, mk_288 H, mk_289 H, mr_1 H, mr_11 H, mr_12 H, mr_13 H, mr_14 H, mr_15 H, mr_16 H, mr_17 H, mr_18 H, mr_19 H, mr_24 H, mr_25 H, mt_k, mt_r, mb_k, mb_r, ↓if_pos z, if_pos z]
theorem l_227b (H : MO h) : ∃ tl', dB PG 227 24 (some (.ref 277) :: some (.int (Int32.ofNat 0)) :: tl) [] ((h.mb N P D).mt F w) = dB PG 227 43 (some (.ref 277) :: some (.int (Int32.ofNat 26)) :: tl') [] ((h.mb N (cl0 26 P) D).mt F w) := by
  obtain ⟨tl, e⟩ := lm (P := PG) (y := 227) (pc := 24) (n := 26) (o := 0) (h := fun k => (h.mb N (cl0 k P) D).mt F w) (L := fun k tl => some (.ref 277) :: some (.int (Int32.ofNat k)) :: tl) (by
    intro k tl _ hk
    refine ⟨tl, ?_⟩
    have z : ¬ (26 : Int32) ≤ Int32.ofNat k := Int32.not_le.mpr (i32_lt_lit (b := 26) (by decide) hk)
    have s1 : Int32.ofNat (k) + 1 = Int32.ofNat (k + 1) := i32_add (b := 1)
    have b_1 : inb (Int32.ofNat (k)) 26 = true := inb_nat (by omega) (by decide)
    have n_1 : (Int32.ofNat (k)).toNatClampNeg = k := i32_nat (by omega)
    rw [D_227_24]
    simp -implicitDefEqProofs only [k_227_24, k_227_43, v_iload_n, g_bipush, g_icmp_ge, v_aload_n, g_getfield, sv_a, rf_s, g_getfieldS, g_iconst, v_iastore, wrI_0, v_iinc, g_goto, g_put_z, v_callV1, aft_v, aft_n, entL, getL, setL, kL_i, kL_r, isI_s, isR_s, isJ_s, gV_s, iV_i, cs0, cs1, cs2, cs3, cs4, dn_nil, kd_si, kd_sl, kd_sw, mr_si, mr_sl, mr_sw, ml_si, ml_sw, mi_sl, mk_277 H, mk_278 H, mk_279 H, mk_280 H, mk_281 H, mk_282 H, mk_283 H, mk_284 H, mk_285 H, mk_286 H, mk_287 H, mk_288 H, mk_289 H, mr_1 H, mr_11 H, mr_12 H, mr_13 H, mr_14 H, mr_15 H, mr_16 H, mr_17 H, mr_18 H, mr_19 H, mr_24 H, mr_25 H, mt_k, mt_r, mb_k, mb_r, ↓if_neg z, if_neg z, b_1, n_1, qw_P, cl0_s, s1]) 26 0 tl (Nat.zero_le 0) (by omega)
  have z : (26 : Int32) ≤ Int32.ofNat 26 := by decide
  refine ⟨tl, ?_⟩
  have e : dB PG 227 24 (some (.ref 277) :: some (.int (Int32.ofNat 0)) :: _) [] ((h.mb N (cl0 0 P) D).mt F w) = dB PG 227 24 (some (.ref 277) :: some (.int (Int32.ofNat 26)) :: tl) [] ((h.mb N (cl0 26 P) D).mt F w) := e
  rw [cl0_0] at e
  rw [e, D_227_24]
  simp -implicitDefEqProofs only [k_227_24, k_227_43, v_iload_n, g_bipush, g_icmp_ge, v_aload_n, g_getfield, sv_a, rf_s, g_getfieldS, g_iconst, v_iastore, wrI_0, v_iinc, g_goto, g_put_z, v_callV1, aft_v, aft_n, entL, getL, setL, kL_i, kL_r, isI_s, isR_s, isJ_s, gV_s, iV_i, cs0, cs1, cs2, cs3, cs4, dn_nil, kd_si, kd_sl, kd_sw, mr_si, mr_sl, mr_sw, ml_si, ml_sw, mi_sl, mk_277 H, mk_278 H, mk_279 H, mk_280 H, mk_281 H, mk_282 H, mk_283 H, mk_284 H, mk_285 H, mk_286 H, mk_287 H, mk_288 H, mk_289 H, mr_1 H, mr_11 H, mr_12 H, mr_13 H, mr_14 H, mr_15 H, mr_16 H, mr_17 H, mr_18 H, mr_19 H, mr_24 H, mr_25 H, mt_k, mt_r, mb_k, mb_r, ↓if_pos z, if_pos z]
theorem l_227c (H : MO h) (B : MTO h n T) (W : WMD h) : ∀ (k : Nat) (a : Ps × Tok) (F : Nat → Int32) (w : Int64) (N : Nat → Int64) (P D : Nat → Int32), (n < k + a.2.2.1 ∨ a.2.2.2.1 ≠ 4) → MS F w n T (.inr a.2) → MRw a.1 F N P D → ∃ F' w' N' P' D', dB PG 227 56 (some (.ref 277) :: tl) [] ((h.mb N P D).mt F w) = dB PG 227 82 (some (.ref 277) :: tl) [] ((h.mb N' P' D').mt F' w') ∧ keepG F F' ∧ okM2 n T (pLs T n k a) F' w' N' P' D' := by
  have out : ∀ (k : Nat) (a : Ps × Tok) (F : Nat → Int32) (w : Int64) (N : Nat → Int64) (P D : Nat → Int32), a.2.2.2.1 ≠ 4 → MS F w n T (.inr a.2) → dB PG 227 56 (some (.ref 277) :: tl) [] ((h.mb N P D).mt F w) = dB PG 227 82 (some (.ref 277) :: tl) [] ((h.mb N P D).mt F w) := by
    intro k a F w N P D c M
    have f5 : F 5 = 0 := M.2.2.2.1
    have f7 : ¬ F 7 = 4 := fun q => c ((ms_k4 M).mp q)
    rw [D_227_56]
    simp -implicitDefEqProofs only [k_227_56, k_227_82, v_aload_n, g_getfield, sv_i, rf_s, g_getfieldS, g_if_ne, g_iconst, g_icmp_ne, v_callV1, aft_v, aft_n, g_goto, g_icmp_eq, v_callV2, entL, getL, setL, kL_i, kL_r, isI_s, isR_s, isJ_s, gV_s, iV_i, cs0, cs1, cs2, cs3, cs4, dn_nil, kd_si, kd_sl, kd_sw, mr_si, mr_sl, mr_sw, ml_si, ml_sw, mi_sl, mk_277 H, mk_278 H, mk_279 H, mk_280 H, mk_281 H, mk_282 H, mk_283 H, mk_284 H, mk_285 H, mk_286 H, mk_287 H, mk_288 H, mk_289 H, mr_1 H, mr_11 H, mr_12 H, mr_13 H, mr_14 H, mr_15 H, mr_16 H, mr_17 H, mr_18 H, mr_19 H, mr_24 H, mr_25 H, mt_k, mb_k, mt_f, f5, ↓if_true, if_true, ↓if_neg f7, if_neg f7]
  intro k
  induction k with
  | zero =>
    intro a F w N P D hm M C
    have h1 : a.2.2.1 ≤ n := M.2.1.1.2
    have c : a.2.2.2.1 ≠ 4 := by
      rcases hm with q | q
      · omega
      · exact q
    exact ⟨F, w, N, P, D, out 0 a F w N P D c M, fun _ _ _ => rfl, M, C⟩
  | succ k ih =>
    intro a F w N P D hm M C
    show ∃ F' w' N' P' D', _ ∧ keepG F F' ∧ okM2 n T (if a.2.2.2.1 = 4 then pB (pLn T n a.1 (tok T n a.2.2.1)) (pLs T n k) else .inr a) F' w' N' P' D'
    by_cases c : a.2.2.2.1 = 4
    · rw [if_pos c]
      have f5 : F 5 = 0 := M.2.2.2.1
      have f7 : F 7 = 4 := (ms_k4 M).mpr c
      have hin : a.2.2.1 ≤ n := M.2.1.1.2
      obtain ⟨F1, w1, g1, M1, k1⟩ := s_294 (h := h.mb N P D) H (mb_to B) M
      have C1 : MRw a.1 F1 N P D := by
        obtain ⟨c1, c2, c3, c4, c5, c6⟩ := C
        exact ⟨c1, c2, c3, c4, (k1 23 (by omega)).trans c5, c6⟩
      obtain ⟨F2, w2, N2, P2, D2, g2, k2, R2⟩ := s_296 H B W M1 C1
      have e1 : dB PG 227 56 (some (.ref 277) :: tl) [] ((h.mb N P D).mt F w) = dB PG 227 56 (some (.ref 277) :: tl) [] ((h.mb N2 P2 D2).mt F2 w2) := by
        rw [D_227_56]
        simp -implicitDefEqProofs only [k_227_56, k_227_82, v_aload_n, g_getfield, sv_i, rf_s, g_getfieldS, g_if_ne, g_iconst, g_icmp_ne, v_callV1, aft_v, aft_n, g_goto, g_icmp_eq, v_callV2, entL, getL, setL, kL_i, kL_r, isI_s, isR_s, isJ_s, gV_s, iV_i, cs0, cs1, cs2, cs3, cs4, dn_nil, kd_si, kd_sl, kd_sw, mr_si, mr_sl, mr_sw, ml_si, ml_sw, mi_sl, mk_277 H, mk_278 H, mk_279 H, mk_280 H, mk_281 H, mk_282 H, mk_283 H, mk_284 H, mk_285 H, mk_286 H, mk_287 H, mk_288 H, mk_289 H, mr_1 H, mr_11 H, mr_12 H, mr_13 H, mr_14 H, mr_15 H, mr_16 H, mr_17 H, mr_18 H, mr_19 H, mr_24 H, mr_25 H, mt_k, mb_k, mt_f, f5, ↓if_true, if_true, f7, g1, g2]
      have kk : keepG F F2 := (keepG.of k1).tr k2
      rw [e1]
      cases ey : pLn T n a.1 (tok T n a.2.2.1) with
      | inl e =>
        rw [ey] at R2
        rw [pB_l]
        obtain ⟨M2, bd⟩ := R2
        have n5 := ms_e0 M2
        refine ⟨F2, w2, N2, P2, D2, ?_, kk, M2, bd⟩
        rw [D_227_56]
        simp -implicitDefEqProofs only [k_227_56, k_227_82, v_aload_n, g_getfield, sv_i, rf_s, g_getfieldS, g_if_ne, g_iconst, g_icmp_ne, v_callV1, aft_v, aft_n, g_goto, g_icmp_eq, v_callV2, entL, getL, setL, kL_i, kL_r, isI_s, isR_s, isJ_s, gV_s, iV_i, cs0, cs1, cs2, cs3, cs4, dn_nil, kd_si, kd_sl, kd_sw, mr_si, mr_sl, mr_sw, ml_si, ml_sw, mi_sl, mk_277 H, mk_278 H, mk_279 H, mk_280 H, mk_281 H, mk_282 H, mk_283 H, mk_284 H, mk_285 H, mk_286 H, mk_287 H, mk_288 H, mk_289 H, mr_1 H, mr_11 H, mr_12 H, mr_13 H, mr_14 H, mr_15 H, mr_16 H, mr_17 H, mr_18 H, mr_19 H, mr_24 H, mr_25 H, mt_k, mb_k, mt_f, ↓if_neg n5, if_neg n5]
      | inr b =>
        rw [ey] at R2
        rw [pB_r]
        obtain ⟨M2, C2⟩ := R2
        have A := pLn_a (tok_in (T := T) hin) ey
        have hb : n < k + b.2.2.1 ∨ b.2.2.2.1 ≠ 4 := by
          by_cases cb : b.2.2.2.1 = 4
          · obtain ⟨p, p1, p2, p3⟩ := A
            rw [p3] at cb
            have z1 := tok_4 p2 cb
            rw [← p3] at z1
            have z2 := tok_le (T := T) hin
            rcases hm with q | q
            · exact Or.inl (by omega)
            · exact absurd c q
          · exact Or.inr cb
        obtain ⟨F3, w3, N3, P3, D3, g3, k3, R3⟩ := ih b F2 w2 N2 P2 D2 hb M2 C2
        exact ⟨F3, w3, N3, P3, D3, g3, kk.tr k3, R3⟩
    · rw [if_neg c]
      exact ⟨F, w, N, P, D, out 0 a F w N P D c M, fun _ _ _ => rfl, M, C⟩
def okM3 (x : PE Ps) (F : Nat → Int32) (N : Nat → Int64) (P D : Nat → Int32) : Prop := match x with
  | .inl e => (0 < e.1 ∧ e.1 < 7 ∧ F 5 = Int32.ofNat e.1 ∧ F 6 = Int32.ofNat e.2) ∧ BD P D
  | .inr q => (F 5 = 0 ∧ F 6 = -1) ∧ MRw q F N P D
theorem f_227 (H : MO h) {y : PE (Ps × Tok)} (R : okM2 n T y F w N P D) : ∃ F', dB PG 227 82 (some (.ref 277) :: tl) [] ((h.mb N P D).mt F w) = dB PG 227 118 (some (.ref 277) :: tl) [] ((h.mb N P D).mt F' w) ∧ keepG F F' ∧ okM3 (pB y fun b => pEn b.1 b.2) F' N P D := by
  cases y with
  | inl e =>
    obtain ⟨M, ⟨a, a4, ea⟩, bd⟩ := R
    have n5 := ms_e0 M
    refine ⟨F, ?_, fun _ _ _ => rfl, M, ⟨a, a4, ea⟩, bd⟩
    have g := m_297e (h := h.mb N P D) (x := 6) (w := w) H (ms_5 M)
    rw [D_227_82]
    by_cases c : P 7 = 0
    · simp -implicitDefEqProofs only [k_227_82, D_227_102, k_227_102, k_227_118, v_aload_n, g_getfield, sv_i, rf_s, g_getfieldS, g_if_ne, g_iconst, g_icmp_eq, v_callV2, aft_v, aft_n, sv_a, g_bipush, v_iaload, inI_0, g_istore_n, entL, getL, setL, kL_i, kL_r, isI_s, isR_s, isJ_s, gV_s, iV_i, cs0, cs1, cs2, cs3, cs4, dn_nil, kd_si, kd_sl, kd_sw, mr_si, mr_sl, mr_sw, ml_si, ml_sw, mi_sl, mk_277 H, mk_278 H, mk_279 H, mk_280 H, mk_281 H, mk_282 H, mk_283 H, mk_284 H, mk_285 H, mk_286 H, mk_287 H, mk_288 H, mk_289 H, mr_1 H, mr_11 H, mr_12 H, mr_13 H, mr_14 H, mr_15 H, mr_16 H, mr_17 H, mr_18 H, mr_19 H, mr_24 H, mr_25 H, mt_k, mt_r, mb_k, mb_r, mt_f, ↓if_neg n5, if_neg n5, ip_0, ip_1, ip_2, ip_3, ip_4, ip_5, ip_6, ip_7, ip_8, ip_9, ip_10, ip_11, ip_12, ip_13, ip_14, ip_15, ip_16, ip_17, ip_18, ip_19, ip_20, ip_21, ip_22, ip_23, ip_24, ip_25, ix_0, ix_1, ix_2, ix_3, ix_4, ix_5, ix_6, ix_7, ix_8, ix_9, ix_10, ix_11, ix_12, ix_13, ix_14, ix_15, ix_16, ix_17, ix_18, ix_19, ix_20, ix_21, ix_22, ix_23, ix_24, ix_25, mq_P, ↓if_pos c, if_pos c, g]
    · simp -implicitDefEqProofs only [k_227_82, D_227_102, k_227_102, k_227_118, v_aload_n, g_getfield, sv_i, rf_s, g_getfieldS, g_if_ne, g_iconst, g_icmp_eq, v_callV2, aft_v, aft_n, sv_a, g_bipush, v_iaload, inI_0, g_istore_n, entL, getL, setL, kL_i, kL_r, isI_s, isR_s, isJ_s, gV_s, iV_i, cs0, cs1, cs2, cs3, cs4, dn_nil, kd_si, kd_sl, kd_sw, mr_si, mr_sl, mr_sw, ml_si, ml_sw, mi_sl, mk_277 H, mk_278 H, mk_279 H, mk_280 H, mk_281 H, mk_282 H, mk_283 H, mk_284 H, mk_285 H, mk_286 H, mk_287 H, mk_288 H, mk_289 H, mr_1 H, mr_11 H, mr_12 H, mr_13 H, mr_14 H, mr_15 H, mr_16 H, mr_17 H, mr_18 H, mr_19 H, mr_24 H, mr_25 H, mt_k, mt_r, mb_k, mb_r, mt_f, ↓if_neg n5, if_neg n5, ip_0, ip_1, ip_2, ip_3, ip_4, ip_5, ip_6, ip_7, ip_8, ip_9, ip_10, ip_11, ip_12, ip_13, ip_14, ip_15, ip_16, ip_17, ip_18, ip_19, ip_20, ip_21, ip_22, ip_23, ip_24, ip_25, ix_0, ix_1, ix_2, ix_3, ix_4, ix_5, ix_6, ix_7, ix_8, ix_9, ix_10, ix_11, ix_12, ix_13, ix_14, ix_15, ix_16, ix_17, ix_18, ix_19, ix_20, ix_21, ix_22, ix_23, ix_24, ix_25, mq_P, ↓if_neg c, if_neg c]
  | inr b =>
    obtain ⟨M, C⟩ := R
    have f5 : F 5 = 0 := M.2.2.2.1
    have C0 := C
    obtain ⟨⟨i1, i2, i3, i4, i5, i6⟩, cP, cD, cN, c23, cz⟩ := C
    have p7 : P 7 = Int32.ofNat b.1.ns := by rw [cP 7 (by decide), i5]
    have d9 : D 9 = Int32.ofNat b.1.ni := by rw [cD 9 (by decide), i6]
    have bd : BD P D := ⟨⟨_, i2, p7⟩, ⟨_, i3, d9⟩⟩
    rw [pB_r]
    unfold pEn
    by_cases c0 : b.2.2.2.1 = 0
    · have f7 := (ms_k1 M).mpr c0
      rw [if_pos c0]
      by_cases cs : b.1.ns = 0
      · have p0 : P 7 = 0 := by rw [p7, cs]; rfl
        rw [if_pos cs]
        have g := m_297 (h := h.mb N P D) (x := 6) (w := w) H f5
        have M2 := ms_rep (w' := w) (k := 6) (x := 6) M (by decide) (by decide)
        refine ⟨_, ?_, keepG.of kf_rep, M2, bd⟩
        rw [D_227_82]
        simp -implicitDefEqProofs only [k_227_82, D_227_102, k_227_102, k_227_118, v_aload_n, g_getfield, sv_i, rf_s, g_getfieldS, g_if_ne, g_iconst, g_icmp_eq, v_callV2, aft_v, aft_n, sv_a, g_bipush, v_iaload, inI_0, g_istore_n, entL, getL, setL, kL_i, kL_r, isI_s, isR_s, isJ_s, gV_s, iV_i, cs0, cs1, cs2, cs3, cs4, dn_nil, kd_si, kd_sl, kd_sw, mr_si, mr_sl, mr_sw, ml_si, ml_sw, mi_sl, mk_277 H, mk_278 H, mk_279 H, mk_280 H, mk_281 H, mk_282 H, mk_283 H, mk_284 H, mk_285 H, mk_286 H, mk_287 H, mk_288 H, mk_289 H, mr_1 H, mr_11 H, mr_12 H, mr_13 H, mr_14 H, mr_15 H, mr_16 H, mr_17 H, mr_18 H, mr_19 H, mr_24 H, mr_25 H, mt_k, mt_r, mb_k, mb_r, mt_f, f5, ↓if_true, if_true, f7, ip_0, ip_1, ip_2, ip_3, ip_4, ip_5, ip_6, ip_7, ip_8, ip_9, ip_10, ip_11, ip_12, ip_13, ip_14, ip_15, ip_16, ip_17, ip_18, ip_19, ip_20, ip_21, ip_22, ip_23, ip_24, ip_25, ix_0, ix_1, ix_2, ix_3, ix_4, ix_5, ix_6, ix_7, ix_8, ix_9, ix_10, ix_11, ix_12, ix_13, ix_14, ix_15, ix_16, ix_17, ix_18, ix_19, ix_20, ix_21, ix_22, ix_23, ix_24, ix_25, mq_P, ↓if_pos p0, if_pos p0, g]
      · have p0 : ¬ P 7 = 0 := by
          rw [p7]
          show ¬ Int32.ofNat b.1.ns = Int32.ofNat 0
          exact i32_ne (by omega) (by omega) cs
        rw [if_neg cs]
        refine ⟨F, ?_, fun _ _ _ => rfl, ⟨f5, M.2.2.2.2⟩, C0⟩
        rw [D_227_82]
        simp -implicitDefEqProofs only [k_227_82, D_227_102, k_227_102, k_227_118, v_aload_n, g_getfield, sv_i, rf_s, g_getfieldS, g_if_ne, g_iconst, g_icmp_eq, v_callV2, aft_v, aft_n, sv_a, g_bipush, v_iaload, inI_0, g_istore_n, entL, getL, setL, kL_i, kL_r, isI_s, isR_s, isJ_s, gV_s, iV_i, cs0, cs1, cs2, cs3, cs4, dn_nil, kd_si, kd_sl, kd_sw, mr_si, mr_sl, mr_sw, ml_si, ml_sw, mi_sl, mk_277 H, mk_278 H, mk_279 H, mk_280 H, mk_281 H, mk_282 H, mk_283 H, mk_284 H, mk_285 H, mk_286 H, mk_287 H, mk_288 H, mk_289 H, mr_1 H, mr_11 H, mr_12 H, mr_13 H, mr_14 H, mr_15 H, mr_16 H, mr_17 H, mr_18 H, mr_19 H, mr_24 H, mr_25 H, mt_k, mt_r, mb_k, mb_r, mt_f, f5, ↓if_true, if_true, f7, ip_0, ip_1, ip_2, ip_3, ip_4, ip_5, ip_6, ip_7, ip_8, ip_9, ip_10, ip_11, ip_12, ip_13, ip_14, ip_15, ip_16, ip_17, ip_18, ip_19, ip_20, ip_21, ip_22, ip_23, ip_24, ip_25, ix_0, ix_1, ix_2, ix_3, ix_4, ix_5, ix_6, ix_7, ix_8, ix_9, ix_10, ix_11, ix_12, ix_13, ix_14, ix_15, ix_16, ix_17, ix_18, ix_19, ix_20, ix_21, ix_22, ix_23, ix_24, ix_25, mq_P, ↓if_neg p0, if_neg p0]
    · have f7 : ¬ F 7 = 1 := fun q => c0 ((ms_k1 M).mp q)
      rw [if_neg c0]
      have g := m_297 (h := h.mb N P D) (x := 1) (w := w) H f5
      have M2 := ms_rep (w' := w) (k := 1) (x := 1) M (by decide) (by decide)
      have g2 := m_297e (h := h.mb N P D) (x := 6) (w := w) H (ms_5 M2)
      have g2 : dM PG 297 [.ref 277, .int 6] ((h.mb N P D).mt (zu (zu F 5 1) 6 (F 8)) w) = some (.inl none, (h.mb N P D).mt (zu (zu F 5 1) 6 (F 8)) w) := g2
      refine ⟨_, ?_, keepG.of kf_rep, M2, bd⟩
      rw [D_227_82]
      by_cases c : P 7 = 0
      · simp -implicitDefEqProofs only [k_227_82, D_227_102, k_227_102, k_227_118, v_aload_n, g_getfield, sv_i, rf_s, g_getfieldS, g_if_ne, g_iconst, g_icmp_eq, v_callV2, aft_v, aft_n, sv_a, g_bipush, v_iaload, inI_0, g_istore_n, entL, getL, setL, kL_i, kL_r, isI_s, isR_s, isJ_s, gV_s, iV_i, cs0, cs1, cs2, cs3, cs4, dn_nil, kd_si, kd_sl, kd_sw, mr_si, mr_sl, mr_sw, ml_si, ml_sw, mi_sl, mk_277 H, mk_278 H, mk_279 H, mk_280 H, mk_281 H, mk_282 H, mk_283 H, mk_284 H, mk_285 H, mk_286 H, mk_287 H, mk_288 H, mk_289 H, mr_1 H, mr_11 H, mr_12 H, mr_13 H, mr_14 H, mr_15 H, mr_16 H, mr_17 H, mr_18 H, mr_19 H, mr_24 H, mr_25 H, mt_k, mt_r, mb_k, mb_r, mt_f, f5, ↓if_true, if_true, ↓if_neg f7, if_neg f7, ip_0, ip_1, ip_2, ip_3, ip_4, ip_5, ip_6, ip_7, ip_8, ip_9, ip_10, ip_11, ip_12, ip_13, ip_14, ip_15, ip_16, ip_17, ip_18, ip_19, ip_20, ip_21, ip_22, ip_23, ip_24, ip_25, ix_0, ix_1, ix_2, ix_3, ix_4, ix_5, ix_6, ix_7, ix_8, ix_9, ix_10, ix_11, ix_12, ix_13, ix_14, ix_15, ix_16, ix_17, ix_18, ix_19, ix_20, ix_21, ix_22, ix_23, ix_24, ix_25, mq_P, g, ↓if_pos c, if_pos c, g2]
      · simp -implicitDefEqProofs only [k_227_82, D_227_102, k_227_102, k_227_118, v_aload_n, g_getfield, sv_i, rf_s, g_getfieldS, g_if_ne, g_iconst, g_icmp_eq, v_callV2, aft_v, aft_n, sv_a, g_bipush, v_iaload, inI_0, g_istore_n, entL, getL, setL, kL_i, kL_r, isI_s, isR_s, isJ_s, gV_s, iV_i, cs0, cs1, cs2, cs3, cs4, dn_nil, kd_si, kd_sl, kd_sw, mr_si, mr_sl, mr_sw, ml_si, ml_sw, mi_sl, mk_277 H, mk_278 H, mk_279 H, mk_280 H, mk_281 H, mk_282 H, mk_283 H, mk_284 H, mk_285 H, mk_286 H, mk_287 H, mk_288 H, mk_289 H, mr_1 H, mr_11 H, mr_12 H, mr_13 H, mr_14 H, mr_15 H, mr_16 H, mr_17 H, mr_18 H, mr_19 H, mr_24 H, mr_25 H, mt_k, mt_r, mb_k, mb_r, mt_f, f5, ↓if_true, if_true, ↓if_neg f7, if_neg f7, ip_0, ip_1, ip_2, ip_3, ip_4, ip_5, ip_6, ip_7, ip_8, ip_9, ip_10, ip_11, ip_12, ip_13, ip_14, ip_15, ip_16, ip_17, ip_18, ip_19, ip_20, ip_21, ip_22, ip_23, ip_24, ip_25, ix_0, ix_1, ix_2, ix_3, ix_4, ix_5, ix_6, ix_7, ix_8, ix_9, ix_10, ix_11, ix_12, ix_13, ix_14, ix_15, ix_16, ix_17, ix_18, ix_19, ix_20, ix_21, ix_22, ix_23, ix_24, ix_25, mq_P, g, ↓if_neg c, if_neg c]
theorem l_227d (H : MO h) {nk m : Nat} (hnk : nk ≤ 4) (hm : m ≤ 60) (p7 : P 7 = Int32.ofNat nk) (d9 : D 9 = Int32.ofNat m) : dB PG 227 118 (some (.ref 277) :: tl) [] ((h.mb N P D).mt F w) = some (.inl none, (h.mb N P (enR D P nk m 80)).mt F w) := by
  obtain ⟨tl', e⟩ := lm (P := PG) (y := 227) (pc := 120) (n := 80) (o := 0) (h := fun k => (h.mb N P (enR D P nk m k)).mt F w) (L := fun k tl => some (.ref 277) :: some (.int (Int32.ofNat k)) :: tl) (by
    intro k tl _ hk
    refine ⟨tl, ?_⟩
    have z : ¬ (80 : Int32) ≤ Int32.ofNat k := Int32.not_le.mpr (i32_lt_lit (b := 80) (by decide) hk)
    have a128 : (128 : Int32) + Int32.ofNat k = Int32.ofNat (128 + k) := i32_add (a := 128)
    have a288 : (288 : Int32) + Int32.ofNat k = Int32.ofNat (288 + k) := i32_add (a := 288)
    have s1 : Int32.ofNat (k) + 1 = Int32.ofNat (k + 1) := i32_add (b := 1)
    have b_1 : inb (Int32.ofNat (128 + k)) 1168 = true := inb_nat (by omega) (by decide)
    have n_1 : (Int32.ofNat (128 + k)).toNatClampNeg = 128 + k := i32_nat (by omega)
    have b_2 : inb (Int32.ofNat (288 + k)) 1168 = true := inb_nat (by omega) (by decide)
    have n_2 : (Int32.ofNat (288 + k)).toNatClampNeg = 288 + k := i32_nat (by omega)
    have e9 : zu (enR D P nk m k) (128 + k) (-1) 9 = Int32.ofNat m := by rw [zu_o (by omega), enR_o (by omega) (by omega), d9]
    have e288 : zu (enR D P nk m k) (128 + k) (-1) (288 + k) = D (288 + k) := by
      rw [zu_o (by omega)]
      unfold enR
      rw [if_neg (by omega), if_neg (by omega)]
    by_cases cm : k < m
    · skip
      have e1 : ¬ Int32.ofNat (m) ≤ Int32.ofNat (k) := by rw [i32_le (by omega) (by omega)]; omega
      by_cases c0 : D (288 + k) = 0
      · have ey := enR_y (D := D) (pl := P) (nk := nk) (m := m) (v := -1) hk cm (by rw [if_pos c0])
        rw [D_227_120]
        simp -implicitDefEqProofs only [k_227_120, D_227_174, k_227_174, D_227_186, k_227_186, D_227_187, k_227_187, k_227_193, R_227, v_iload_n, g_bipush, g_icmp_ge, v_aload_n, g_getfield, sv_a, rf_s, g_getfieldS, g_sipush, g_iadd, g_iconst, v_iastore, wrI_0, v_iaload, inI_0, g_if_ne, g_goto, v_callS3, aft_v, aft_n, v_iinc, g_return, entL, getL, setL, kL_i, kL_r, isI_s, isR_s, isJ_s, gV_s, iV_i, cs0, cs1, cs2, cs3, cs4, dn_nil, kd_si, kd_sl, kd_sw, mr_si, mr_sl, mr_sw, ml_si, ml_sw, mi_sl, mk_277 H, mk_278 H, mk_279 H, mk_280 H, mk_281 H, mk_282 H, mk_283 H, mk_284 H, mk_285 H, mk_286 H, mk_287 H, mk_288 H, mk_289 H, mr_1 H, mr_11 H, mr_12 H, mr_13 H, mr_14 H, mr_15 H, mr_16 H, mr_17 H, mr_18 H, mr_19 H, mr_24 H, mr_25 H, mt_k, mt_r, mb_k, mb_r, ↓if_neg z, if_neg z, a128, b_1, n_1, qw_D, mq_D, in_0, in_1, in_2, in_3, in_4, in_5, in_6, in_7, in_8, in_9, ix_0, ix_1, ix_2, ix_3, ix_4, ix_5, ix_6, ix_7, ix_8, ix_9, ix_10, ix_11, ix_12, ix_13, ix_14, ix_15, ix_16, ix_17, ix_18, ix_19, ix_20, ix_21, ix_22, ix_23, ix_24, ix_25, e9, ↓if_neg e1, if_neg e1, a288, b_2, n_2, e288, ↓if_pos c0, if_pos c0, ey, s1]
      · have g := m_164 (s := 284) (p := 280) (i := k) (nk := nk) (h := (h.mb N P (zu (enR D P nk m k) (128 + k) (-1))).mt F w) hk hnk (mk_284 H) (mk_280 H) p7
        rw [mq_D, mq_P] at g
        have ek : kbF (zu (enR D P nk m k) (128 + k) (-1)) P k nk = kbF D P k nk := kbF_c (fun j a b => by rw [zu_o (by omega), enR_o (by omega) (by omega)]) rfl hk hnk
        rw [ek] at g
        have ey := enR_y (D := D) (pl := P) (nk := nk) (m := m) (v := kbF D P k nk) hk cm (by rw [if_neg c0])
        rw [D_227_120]
        simp -implicitDefEqProofs only [k_227_120, D_227_174, k_227_174, D_227_186, k_227_186, D_227_187, k_227_187, k_227_193, R_227, v_iload_n, g_bipush, g_icmp_ge, v_aload_n, g_getfield, sv_a, rf_s, g_getfieldS, g_sipush, g_iadd, g_iconst, v_iastore, wrI_0, v_iaload, inI_0, g_if_ne, g_goto, v_callS3, aft_v, aft_n, v_iinc, g_return, entL, getL, setL, kL_i, kL_r, isI_s, isR_s, isJ_s, gV_s, iV_i, cs0, cs1, cs2, cs3, cs4, dn_nil, kd_si, kd_sl, kd_sw, mr_si, mr_sl, mr_sw, ml_si, ml_sw, mi_sl, mk_277 H, mk_278 H, mk_279 H, mk_280 H, mk_281 H, mk_282 H, mk_283 H, mk_284 H, mk_285 H, mk_286 H, mk_287 H, mk_288 H, mk_289 H, mr_1 H, mr_11 H, mr_12 H, mr_13 H, mr_14 H, mr_15 H, mr_16 H, mr_17 H, mr_18 H, mr_19 H, mr_24 H, mr_25 H, mt_k, mt_r, mb_k, mb_r, ↓if_neg z, if_neg z, a128, b_1, n_1, qw_D, mq_D, in_0, in_1, in_2, in_3, in_4, in_5, in_6, in_7, in_8, in_9, ix_0, ix_1, ix_2, ix_3, ix_4, ix_5, ix_6, ix_7, ix_8, ix_9, ix_10, ix_11, ix_12, ix_13, ix_14, ix_15, ix_16, ix_17, ix_18, ix_19, ix_20, ix_21, ix_22, ix_23, ix_24, ix_25, e9, ↓if_neg e1, if_neg e1, a288, b_2, n_2, e288, ↓if_neg c0, if_neg c0, g, ey, s1]
    · skip
      have e1 : Int32.ofNat (m) ≤ Int32.ofNat (k) := by rw [i32_le (by omega) (by omega)]; omega
      have ey := enR_n (D := D) (pl := P) (nk := nk) (m := m) hk (by omega)
      have e9' : enR D P nk m (k + 1) 9 = Int32.ofNat m := by rw [enR_o (by omega) (by omega), d9]
      rw [D_227_120]
      simp -implicitDefEqProofs only [k_227_120, D_227_174, k_227_174, D_227_186, k_227_186, D_227_187, k_227_187, k_227_193, R_227, v_iload_n, g_bipush, g_icmp_ge, v_aload_n, g_getfield, sv_a, rf_s, g_getfieldS, g_sipush, g_iadd, g_iconst, v_iastore, wrI_0, v_iaload, inI_0, g_if_ne, g_goto, v_callS3, aft_v, aft_n, v_iinc, g_return, entL, getL, setL, kL_i, kL_r, isI_s, isR_s, isJ_s, gV_s, iV_i, cs0, cs1, cs2, cs3, cs4, dn_nil, kd_si, kd_sl, kd_sw, mr_si, mr_sl, mr_sw, ml_si, ml_sw, mi_sl, mk_277 H, mk_278 H, mk_279 H, mk_280 H, mk_281 H, mk_282 H, mk_283 H, mk_284 H, mk_285 H, mk_286 H, mk_287 H, mk_288 H, mk_289 H, mr_1 H, mr_11 H, mr_12 H, mr_13 H, mr_14 H, mr_15 H, mr_16 H, mr_17 H, mr_18 H, mr_19 H, mr_24 H, mr_25 H, mt_k, mt_r, mb_k, mb_r, ↓if_neg z, if_neg z, a128, b_1, n_1, qw_D, mq_D, in_0, in_1, in_2, in_3, in_4, in_5, in_6, in_7, in_8, in_9, ix_0, ix_1, ix_2, ix_3, ix_4, ix_5, ix_6, ix_7, ix_8, ix_9, ix_10, ix_11, ix_12, ix_13, ix_14, ix_15, ix_16, ix_17, ix_18, ix_19, ix_20, ix_21, ix_22, ix_23, ix_24, ix_25, e9, e9', ↓if_pos e1, if_pos e1, ey, s1]) 80 0 tl.tail (Nat.zero_le 0) (by omega)
  have z : (80 : Int32) ≤ Int32.ofNat 80 := by decide
  have e : dB PG 227 120 (some (.ref 277) :: some (.int (Int32.ofNat 0)) :: tl.tail) [] ((h.mb N P (enR D P nk m 0)).mt F w) = dB PG 227 120 (some (.ref 277) :: some (.int (Int32.ofNat 80)) :: tl') [] ((h.mb N P (enR D P nk m 80)).mt F w) := e
  rw [enR_0] at e
  have e1 : dB PG 227 118 (some (.ref 277) :: tl) [] ((h.mb N P D).mt F w) = dB PG 227 120 (some (.ref 277) :: some (.int (Int32.ofNat 0)) :: tl.tail) [] ((h.mb N P D).mt F w) := by
    rw [D_227_118]
    simp -implicitDefEqProofs only [k_227_118, k_227_120, g_iconst, g_istore_n, v_iload_n, g_bipush, g_icmp_ge, v_aload_n, g_getfield, sv_a, rf_s, g_getfieldS, g_sipush, g_iadd, v_iastore, wrI_0, v_iaload, inI_0, g_if_ne, g_goto, entL, getL, setL, kL_i, kL_r, isI_s, isR_s, isJ_s, gV_s, iV_i, cs0, cs1, cs2, cs3, cs4, dn_nil, kd_si, kd_sl, kd_sw, mr_si, mr_sl, mr_sw, ml_si, ml_sw, mi_sl, setL_0]
    rfl
  rw [e1, e, D_227_120]
  simp -implicitDefEqProofs only [k_227_120, D_227_193, k_227_193, R_227, v_iload_n, g_bipush, g_icmp_ge, v_aload_n, g_getfield, sv_a, rf_s, g_getfieldS, g_sipush, g_iadd, g_iconst, v_iastore, wrI_0, v_iaload, inI_0, g_if_ne, g_goto, g_return, entL, getL, setL, kL_i, kL_r, isI_s, isR_s, isJ_s, gV_s, iV_i, cs0, cs1, cs2, cs3, cs4, dn_nil, kd_si, kd_sl, kd_sw, mr_si, mr_sl, mr_sw, ml_si, ml_sw, mi_sl, mk_277 H, mk_278 H, mk_279 H, mk_280 H, mk_281 H, mk_282 H, mk_283 H, mk_284 H, mk_285 H, mk_286 H, mk_287 H, mk_288 H, mk_289 H, mr_1 H, mr_11 H, mr_12 H, mr_13 H, mr_14 H, mr_15 H, mr_16 H, mr_17 H, mr_18 H, mr_19 H, mr_24 H, mr_25 H, mt_k, mt_r, mb_k, mb_r, ↓if_pos z, if_pos z]
def okM4 (x : PE Ps) (F : Nat → Int32) (N : Nat → Int64) (P D : Nat → Int32) : Prop := match x with
  | .inl e => 0 < e.1 ∧ e.1 < 7 ∧ F 5 = Int32.ofNat e.1 ∧ F 6 = Int32.ofNat e.2
  | .inr q => (F 5 = 0 ∧ F 6 = -1) ∧ (q.st ≤ 4 ∧ q.ns ≤ 4 ∧ q.ni ≤ 60 ∧ q.pl 16 = Int32.ofNat q.st ∧ q.pl 7 = Int32.ofNat q.ns ∧ q.dr 9 = Int32.ofNat q.ni) ∧ (∀ k, k < 26 → P k = q.pl k) ∧ (∀ k, k < 1168 → D k = enR q.dr q.pl q.ns q.ni 80 k) ∧ NMM N q.ns q.nm
theorem s_227 (H : MO h) (B : MTO h n T) (W : WMD h) (f3 : F 3 = Int32.ofNat n) (f4 : F 4 = 0) (f5 : F 5 = 0) (f6 : F 6 = -1) : ∃ F' w' N' P' D', dM PG 227 [.ref 277] ((h.mb N P D).mt F w) = some (.inl none, (h.mb N' P' D').mt F' w') ∧ keepG F F' ∧ okM4 (pTx T n) F' N' P' D' := by
  obtain ⟨tl1, e1⟩ := l_227a (N := N) (P := P) (D := D) (F := F) (w := w) H
  obtain ⟨tl2, e2⟩ := l_227b (N := N) (P := P) (D := cl0 1168 D) (F := F) (w := w) (tl := tl1) H
  have e0 : dM PG 227 [.ref 277] ((h.mb N P D).mt F w) = dB PG 227 2 (some (.ref 277) :: some (.int (Int32.ofNat 0)) :: []) [] ((h.mb N P D).mt F w) := by
    rw [dM_of (Nat.le_of_ble_eq_true rfl)]
    simp -implicitDefEqProofs only [D_227_0, k_227_0, k_227_2, g_iconst, g_istore_n, v_iload_n, g_sipush, g_icmp_ge, v_aload_n, g_getfield, sv_a, rf_s, g_getfieldS, v_iastore, wrI_0, v_iinc, g_goto, entL, getL, setL, kL_i, kL_r, isI_s, isR_s, isJ_s, gV_s, iV_i, cs0, cs1, cs2, cs3, cs4, dn_nil, kd_si, kd_sl, kd_sw, mr_si, mr_sl, mr_sw, ml_si, ml_sw, mi_sl, kL_n]
    rfl
  have e12 : dB PG 227 22 (some (.ref 277) :: some (.int (Int32.ofNat 1168)) :: tl1) [] ((h.mb N P (cl0 1168 D)).mt F w) = dB PG 227 24 (some (.ref 277) :: some (.int (Int32.ofNat 0)) :: tl1) [] ((h.mb N P (cl0 1168 D)).mt F w) := by
    rw [D_227_22]
    simp -implicitDefEqProofs only [k_227_22, k_227_24, g_iconst, g_istore_n, v_iload_n, g_bipush, g_icmp_ge, v_aload_n, g_getfield, sv_a, rf_s, g_getfieldS, v_iastore, wrI_0, v_iinc, g_goto, entL, getL, setL, kL_i, kL_r, isI_s, isR_s, isJ_s, gV_s, iV_i, cs0, cs1, cs2, cs3, cs4, dn_nil, kd_si, kd_sl, kd_sw, mr_si, mr_sl, mr_sw, ml_si, ml_sw, mi_sl, kL_n]
    rfl
  obtain ⟨F1, w1, g1, K1, k1⟩ := m_294 (h := h.mb N (cl0 26 P) (cl0 1168 D)) (F := zu F 23 0) (w := w) (p := 0) H (mb_to B) (Nat.zero_le n) ((zu_o (by decide)).trans f3) ((zu_o (by decide)).trans f4) ((zu_o (by decide)).trans f5)
  have M1 : MS F1 w1 n T (.inr (tok T n 0)) := by
    refine ⟨K1, tok_ok (Nat.zero_le n), ⟨0, Nat.zero_le n, rfl⟩, ?_, ?_⟩
    · rw [k1 5 (by decide) (by decide) (by decide) (by decide), zu_o (by decide), f5]
    · rw [k1 6 (by decide) (by decide) (by decide) (by decide), zu_o (by decide), f6]
  have f23 : F1 23 = 0 := by rw [k1 23 (by decide) (by decide) (by decide) (by decide), zu_same]
  obtain ⟨F2, w2, N2, P2, D2, g2, k2, R2⟩ := s_295 (N := N) (P := cl0 26 P) (D := cl0 1168 D) H B W M1 (fun k hk => if_pos hk) (fun k hk => if_pos hk) f23
  have kk : keepG F F2 := by
    intro j hj h3
    rw [k2 j hj h3, k1 j (by omega) (by omega) (by omega) (by omega), zu_o h3]
  have e3 : dB PG 227 43 (some (.ref 277) :: some (.int (Int32.ofNat 26)) :: tl2) [] ((h.mb N (cl0 26 P) (cl0 1168 D)).mt F w) = dB PG 227 56 (some (.ref 277) :: some (.int (Int32.ofNat 26)) :: tl2) [] ((h.mb N2 P2 D2).mt F2 w2) := by
    rw [D_227_43]
    simp -implicitDefEqProofs only [k_227_43, k_227_56, v_aload_n, g_iconst, g_put_z, v_callV1, aft_v, aft_n, g_getfield, sv_i, rf_s, g_getfieldS, g_if_ne, g_icmp_ne, g_goto, entL, getL, setL, kL_i, kL_r, isI_s, isR_s, isJ_s, gV_s, iV_i, cs0, cs1, cs2, cs3, cs4, dn_nil, kd_si, kd_sl, kd_sw, mr_si, mr_sl, mr_sw, ml_si, ml_sw, mi_sl, mk_277 H, mk_278 H, mk_279 H, mk_280 H, mk_281 H, mk_282 H, mk_283 H, mk_284 H, mk_285 H, mk_286 H, mk_287 H, mk_288 H, mk_289 H, mr_1 H, mr_11 H, mr_12 H, mr_13 H, mr_14 H, mr_15 H, mr_16 H, mr_17 H, mr_18 H, mr_19 H, mr_24 H, mr_25 H, mt_k, mb_k, g_put_z0, mt_si, g1, g2]
  have e4 : ∃ F3 w3 N3 P3 D3, dB PG 227 56 (some (.ref 277) :: some (.int (Int32.ofNat 26)) :: tl2) [] ((h.mb N2 P2 D2).mt F2 w2) = dB PG 227 82 (some (.ref 277) :: some (.int (Int32.ofNat 26)) :: tl2) [] ((h.mb N3 P3 D3).mt F3 w3) ∧ keepG F F3 ∧ okM2 n T (pB (pGr T n (tok T n 0)) fun a => pLs T n 1500 a) F3 w3 N3 P3 D3 := by
    cases ey : pGr T n (tok T n 0) with
    | inl e =>
      rw [ey] at R2
      obtain ⟨M2, bd⟩ := R2
      have n5 := ms_e0 M2
      refine ⟨F2, w2, N2, P2, D2, ?_, kk, M2, bd⟩
      rw [D_227_56]
      simp -implicitDefEqProofs only [k_227_56, k_227_82, v_aload_n, g_getfield, sv_i, rf_s, g_getfieldS, g_if_ne, g_iconst, g_icmp_ne, v_callV1, aft_v, aft_n, g_goto, g_icmp_eq, v_callV2, entL, getL, setL, kL_i, kL_r, isI_s, isR_s, isJ_s, gV_s, iV_i, cs0, cs1, cs2, cs3, cs4, dn_nil, kd_si, kd_sl, kd_sw, mr_si, mr_sl, mr_sw, ml_si, ml_sw, mi_sl, mk_277 H, mk_278 H, mk_279 H, mk_280 H, mk_281 H, mk_282 H, mk_283 H, mk_284 H, mk_285 H, mk_286 H, mk_287 H, mk_288 H, mk_289 H, mr_1 H, mr_11 H, mr_12 H, mr_13 H, mr_14 H, mr_15 H, mr_16 H, mr_17 H, mr_18 H, mr_19 H, mr_24 H, mr_25 H, mt_k, mb_k, mt_f, ↓if_neg n5, if_neg n5]
    | inr b =>
      rw [ey] at R2
      obtain ⟨M2, C2⟩ := R2
      have hb : n < 1500 + b.2.2.1 ∨ b.2.2.2.1 ≠ 4 := by
        by_cases cb : b.2.2.2.1 = 4
        · obtain ⟨-, -, ⟨p, p2, p3⟩, -⟩ := M2
          rw [p3] at cb
          have z1 := tok_4 p2 cb
          rw [← p3] at z1
          have := B.1
          exact Or.inl (by omega)
        · exact Or.inr cb
      obtain ⟨F3, w3, N3, P3, D3, g3, k3, R3⟩ := l_227c (tl := some (.int (Int32.ofNat 26)) :: tl2) H B W 1500 b F2 w2 N2 P2 D2 hb M2 C2
      exact ⟨F3, w3, N3, P3, D3, g3, kk.tr k3, R3⟩
  obtain ⟨F3, w3, N3, P3, D3, g3, k3, R3⟩ := e4
  obtain ⟨F4, g4, k4, R4⟩ := f_227 (tl := some (.int (Int32.ofNat 26)) :: tl2) H R3
  have et : pTx T n = pB (pB (pGr T n (tok T n 0)) fun a => pLs T n 1500 a) fun b => pEn b.1 b.2 := by
    unfold pTx
    rw [pB_a]
  rw [← et] at R4
  have pre : dM PG 227 [.ref 277] ((h.mb N P D).mt F w) = dB PG 227 118 (some (.ref 277) :: some (.int (Int32.ofNat 26)) :: tl2) [] ((h.mb N3 P3 D3).mt F4 w3) := by
    rw [e0, e1, e12, e2, e3, g3, g4]
  cases ex : pTx T n with
  | inl e =>
    rw [ex] at R4
    obtain ⟨R5, ⟨a, a4, ea⟩, b, b6, eb⟩ := R4
    exact ⟨F4, w3, N3, P3, _, pre.trans (l_227d H a4 b6 ea eb), k3.tr k4, R5⟩
  | inr q =>
    rw [ex] at R4
    obtain ⟨R5, ⟨i1, i2, i3, i4, i5, i6⟩, cP, cD, cN, c23, cz⟩ := R4
    have p7 : P3 7 = Int32.ofNat q.ns := by rw [cP 7 (by decide), i5]
    have d9 : D3 9 = Int32.ofNat q.ni := by rw [cD 9 (by decide), i6]
    exact ⟨F4, w3, N3, P3, _, pre.trans (l_227d H i2 i3 p7 d9), k3.tr k4, R5, ⟨i1, i2, i3, i4, i5, i6⟩, cP, fun k hk => enR_c cD (cP 1 (by decide)) i2 (by decide) hk, cN⟩
end MPF
