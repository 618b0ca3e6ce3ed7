-- ===== the model: the best move of a quota =====
theorem R_155 : PG.2.1 155 = (some .boolean) := rfl
def cmM (S : Nat → Int32) (f t : Nat) (x : Int32) : Bool := decide (f ≠ t ∧ x ≤ S (14 + f) ∧ S (18 + f) ≤ S (14 + f) - x)
theorem m_155 {f t : Nat} (hf : f < 4) (ht : t < 4) {x : Int32} {h : Mm} (H : MO h) : dM PG 155 [.ref 277, .int (Int32.ofNat f), .int (Int32.ofNat t), .int x] h = some (.inl (some (.int (b2i (cmM (h.mi 283) f t x)))), h) := by
  rw [dM_of (Nat.le_of_ble_eq_true rfl)]
  have b_1 : inb (Int32.ofNat (14 + f)) 1168 = true := inb_nat (by omega) (by decide)
  have n_1 : (Int32.ofNat (14 + f)).toNatClampNeg = 14 + f := i32_nat (by omega)
  have b_2 : inb (Int32.ofNat (18 + f)) 1168 = true := inb_nat (by omega) (by decide)
  have n_2 : (Int32.ofNat (18 + f)).toNatClampNeg = 18 + f := i32_nat (by omega)
  by_cases c1 : f = t
  · have z : b2i (cmM (h.mi 283) f t x) = 0 := by unfold cmM; rw [decide_eq_false (fun q => q.1 c1)]; rfl
    have e : Int32.ofNat f = Int32.ofNat t := by rw [c1]
    rw [z]
    simp -implicitDefEqProofs only [D_155_0, k_155_0, D_155_45, k_155_45, D_155_46, k_155_46, R_155, v_iload_n, g_icmp_eq, v_aload_n, g_getfield, sv_a, rf_s, g_bipush, g_iadd, v_iaload, inI_0, g_icmp_lt, g_isub, g_iconst, g_goto, g_ireturn, entL, getL, setL, kL_i, kL_r, isI_s, isR_s, isJ_s, gV_s, iV_i, cs0, cs1, cs2, cs3, cs4, dn_nil, kd_si, kd_sl, kd_sw, mr_si, mr_sl, mr_sw, ml_si, ml_sw, mi_sl, ↓if_pos e, if_pos e, rX_0]
  · have e : ¬ Int32.ofNat f = Int32.ofNat t := i32_ne (by omega) (by omega) c1
    by_cases c2 : x ≤ h.mi 283 (14 + f)
    · have e2 : ¬ h.mi 283 (14 + f) < x := Int32.not_lt.mpr c2
      by_cases c3 : h.mi 283 (18 + f) ≤ h.mi 283 (14 + f) - x
      · have z : b2i (cmM (h.mi 283) f t x) = 1 := by unfold cmM; rw [decide_eq_true ⟨c1, c2, c3⟩]; rfl
        have e3 : ¬ h.mi 283 (14 + f) - x < h.mi 283 (18 + f) := Int32.not_lt.mpr c3
        rw [z]
        simp -implicitDefEqProofs only [D_155_0, k_155_0, D_155_45, k_155_45, D_155_46, k_155_46, R_155, v_iload_n, g_icmp_eq, v_aload_n, g_getfield, sv_a, rf_s, g_bipush, g_iadd, v_iaload, inI_0, g_icmp_lt, g_isub, g_iconst, g_goto, g_ireturn, entL, getL, setL, kL_i, kL_r, isI_s, isR_s, isJ_s, gV_s, iV_i, cs0, cs1, cs2, cs3, cs4, dn_nil, kd_si, kd_sl, kd_sw, mr_si, mr_sl, mr_sw, ml_si, ml_sw, mi_sl, mk_277 H, mk_278 H, mk_279 H, mk_280 H, mk_281 H, mk_282 H, mk_283 H, mk_284 H, mk_285 H, mk_286 H, mk_287 H, mk_288 H, mk_289 H, mr_1 H, mr_11 H, mr_12 H, mr_13 H, mr_14 H, mr_15 H, mr_16 H, mr_17 H, mr_18 H, mr_19 H, mr_24 H, mr_25 H, la_14, la_18, b_1, n_1, b_2, n_2, ↓if_neg e, if_neg e, ↓if_neg e2, if_neg e2, ↓if_neg e3, if_neg e3, rX_1]
      · have z : b2i (cmM (h.mi 283) f t x) = 0 := by unfold cmM; rw [decide_eq_false (fun q => c3 q.2.2)]; rfl
        have e3 : h.mi 283 (14 + f) - x < h.mi 283 (18 + f) := Int32.not_le.mp c3
        rw [z]
        simp -implicitDefEqProofs only [D_155_0, k_155_0, D_155_45, k_155_45, D_155_46, k_155_46, R_155, v_iload_n, g_icmp_eq, v_aload_n, g_getfield, sv_a, rf_s, g_bipush, g_iadd, v_iaload, inI_0, g_icmp_lt, g_isub, g_iconst, g_goto, g_ireturn, entL, getL, setL, kL_i, kL_r, isI_s, isR_s, isJ_s, gV_s, iV_i, cs0, cs1, cs2, cs3, cs4, dn_nil, kd_si, kd_sl, kd_sw, mr_si, mr_sl, mr_sw, ml_si, ml_sw, mi_sl, mk_277 H, mk_278 H, mk_279 H, mk_280 H, mk_281 H, mk_282 H, mk_283 H, mk_284 H, mk_285 H, mk_286 H, mk_287 H, mk_288 H, mk_289 H, mr_1 H, mr_11 H, mr_12 H, mr_13 H, mr_14 H, mr_15 H, mr_16 H, mr_17 H, mr_18 H, mr_19 H, mr_24 H, mr_25 H, la_14, la_18, b_1, n_1, b_2, n_2, ↓if_neg e, if_neg e, ↓if_neg e2, if_neg e2, ↓if_pos e3, if_pos e3, rX_0]
    · have z : b2i (cmM (h.mi 283) f t x) = 0 := by unfold cmM; rw [decide_eq_false (fun q => c2 q.2.1)]; rfl
      have e2 : h.mi 283 (14 + f) < x := Int32.not_le.mp c2
      rw [z]
      simp -implicitDefEqProofs only [D_155_0, k_155_0, D_155_45, k_155_45, D_155_46, k_155_46, R_155, v_iload_n, g_icmp_eq, v_aload_n, g_getfield, sv_a, rf_s, g_bipush, g_iadd, v_iaload, inI_0, g_icmp_lt, g_isub, g_iconst, g_goto, g_ireturn, entL, getL, setL, kL_i, kL_r, isI_s, isR_s, isJ_s, gV_s, iV_i, cs0, cs1, cs2, cs3, cs4, dn_nil, kd_si, kd_sl, kd_sw, mr_si, mr_sl, mr_sw, ml_si, ml_sw, mi_sl, mk_277 H, mk_278 H, mk_279 H, mk_280 H, mk_281 H, mk_282 H, mk_283 H, mk_284 H, mk_285 H, mk_286 H, mk_287 H, mk_288 H, mk_289 H, mr_1 H, mr_11 H, mr_12 H, mr_13 H, mr_14 H, mr_15 H, mr_16 H, mr_17 H, mr_18 H, mr_19 H, mr_24 H, mr_25 H, la_14, la_18, b_1, n_1, b_2, n_2, ↓if_neg e, if_neg e, ↓if_pos e2, if_pos e2, rX_0]
theorem R_43 : PG.2.1 43 = (some .int) := rfl
theorem m_43n {x t : Int32} {h : Mm} (H : MO h) (hl : h.mi 277 21 = 0) : dM PG 43 [.ref 277, .int x, .int t] h = some (.inl (some (.int 0)), h.si 277 0 1) := by
  rw [dM_of (Nat.le_of_ble_eq_true rfl)]
  simp -implicitDefEqProofs only [D_43_0, k_43_0, R_43, v_aload_n, g_iconst, v_callV2, aft_v, aft_n, g_if_ne, g_ireturn, entL, getL, setL, kL_i, kL_r, isI_s, isR_s, isJ_s, gV_s, iV_i, cs0, cs1, cs2, cs3, cs4, dn_nil, kd_si, kd_sl, kd_sw, mr_si, mr_sl, mr_sw, ml_si, ml_sw, mi_sl, mk_277 H, mk_278 H, mk_279 H, mk_280 H, mk_281 H, mk_282 H, mk_283 H, mk_284 H, mk_285 H, mk_286 H, mk_287 H, mk_288 H, mk_289 H, mr_1 H, mr_11 H, mr_12 H, mr_13 H, mr_14 H, mr_15 H, mr_16 H, mr_17 H, mr_18 H, mr_19 H, mr_24 H, mr_25 H, m_138n H hl, ↓if_true, if_true, retX_int]
theorem m_43x {x t : Int32} {h : Mm} (H : MO h) (hl : ¬ h.mi 277 21 = 0) (c : inF x 1 999999 = 0) : dM PG 43 [.ref 277, .int x, .int t] h = some (.inl (some (.int 0)), h.si 277 0 2) := by
  rw [dM_of (Nat.le_of_ble_eq_true rfl)]
  simp -implicitDefEqProofs only [D_43_0, k_43_0, D_43_10, k_43_10, D_43_30, k_43_30, R_43, v_aload_n, g_iconst, v_callV2, aft_v, aft_n, g_if_ne, g_ireturn, v_iload_n, g_ldc, v_callS3, g_if_eq, g_bipush, entL, getL, setL, kL_i, kL_r, isI_s, isR_s, isJ_s, gV_s, iV_i, cs0, cs1, cs2, cs3, cs4, dn_nil, kd_si, kd_sl, kd_sw, mr_si, mr_sl, mr_sw, ml_si, ml_sw, mi_sl, mk_277 H, mk_278 H, mk_279 H, mk_280 H, mk_281 H, mk_282 H, mk_283 H, mk_284 H, mk_285 H, mk_286 H, mk_287 H, mk_288 H, mk_289 H, mr_1 H, mr_11 H, mr_12 H, mr_13 H, mr_14 H, mr_15 H, mr_16 H, mr_17 H, mr_18 H, mr_19 H, mr_24 H, mr_25 H, m_138y H hl, ↓if_neg z_1, if_neg z_1, m_136, c, ↓if_true, if_true, m_156' (MO_si H), si_si, retX_int]
theorem m_43z {x t : Int32} {h : Mm} (H : MO h) (hl : ¬ h.mi 277 21 = 0) (c : inF x 1 999999 = 1) (c2 : inF t 1 100 = 0) : dM PG 43 [.ref 277, .int x, .int t] h = some (.inl (some (.int 0)), h.si 277 0 2) := by
  rw [dM_of (Nat.le_of_ble_eq_true rfl)]
  simp -implicitDefEqProofs only [D_43_0, k_43_0, D_43_10, k_43_10, D_43_30, k_43_30, R_43, v_aload_n, g_iconst, v_callV2, aft_v, aft_n, g_if_ne, g_ireturn, v_iload_n, g_ldc, v_callS3, g_if_eq, g_bipush, entL, getL, setL, kL_i, kL_r, isI_s, isR_s, isJ_s, gV_s, iV_i, cs0, cs1, cs2, cs3, cs4, dn_nil, kd_si, kd_sl, kd_sw, mr_si, mr_sl, mr_sw, ml_si, ml_sw, mi_sl, mk_277 H, mk_278 H, mk_279 H, mk_280 H, mk_281 H, mk_282 H, mk_283 H, mk_284 H, mk_285 H, mk_286 H, mk_287 H, mk_288 H, mk_289 H, mr_1 H, mr_11 H, mr_12 H, mr_13 H, mr_14 H, mr_15 H, mr_16 H, mr_17 H, mr_18 H, mr_19 H, mr_24 H, mr_25 H, m_138y H hl, ↓if_neg z_1, if_neg z_1, m_136, c, c2, ↓if_true, if_true, m_156' (MO_si H), si_si, retX_int]
def shM (S : Nat → Int32) (f t : Nat) (x : Int32) : Nat → Int32 := zu (zu S (14 + f) (S (14 + f) - x)) (14 + t) (zu S (14 + f) (S (14 + f) - x) (14 + t) + x)
def mvS (nk : Nat) (ok : Nat → Nat → Bool) (g : Nat → Nat → Int64) (k : Nat) (a : Int64 × Int32) : Int64 × Int32 := if (k / 4 < nk ∧ k % 4 < nk) ∧ ok (k / 4) (k % 4) = true then (if 0 < lg_cmp (g (k / 4) (k % 4)) a.1 then (g (k / 4) (k % 4), Int32.ofNat (10 * (k / 4) + k % 4)) else a) else a
theorem m_43y {x t : Int32} {m nk : Nat} (hnk : nk ≤ 4) (hm : m ≤ 80) {h : Mm} (H : MO h) (hl : ¬ h.mi 277 21 = 0) (c : inF x 1 999999 = 1) (c2 : inF t 1 100 = 1) (h8 : h.mi 283 8 = Int32.ofNat m) (h7 : h.mi 279 7 = Int32.ofNat nk) (g0 : Int64) (hr0 : ∃ Q' k, dM PG 176 [.ref 277, .ref 285, .int t] ((h.si 277 0 0).sw 285 (upto 1168 (h.mi 283) (h.mi 285))) = some (.inl none, (h.si 277 0 0).sw 285 Q') ∧ Q' 8 = Int32.ofNat k ∧ k ≤ 80 ∧ fl (eaM (fun k => h.mi 279 (12 + k)) Q' k) nk 0 0 = g0) (g : Nat → Nat → Int64) (hr : ∀ Q f t', f < nk → t' < nk → cmM (h.mi 283) f t' x = true → ∃ Q' k, dM PG 176 [.ref 277, .ref 285, .int t] ((h.si 277 0 0).sw 285 (shM (upto 1168 (h.mi 283) Q) f t' x)) = some (.inl none, (h.si 277 0 0).sw 285 Q') ∧ Q' 8 = Int32.ofNat k ∧ k ≤ 80 ∧ fl (eaM (fun k => h.mi 279 (12 + k)) Q' k) nk 0 0 = g f t') : ∃ Q, dM PG 43 [.ref 277, .int x, .int t] h = some (.inl (some (.int (fl (mvS nk (fun f t => cmM (h.mi 283) f t x) g) 16 0 (g0, -1)).2)), (h.si 277 0 0).sw 285 Q) := by
  rw [dM_of (Nat.le_of_ble_eq_true rfl)]
  obtain ⟨Q0, k0, r1, r2, r3, r4⟩ := hr0
  have w7 : ∀ Q, ((h.si 277 0 0).sw 285 Q).mi 279 = h.mi 279 := fun Q => wk9
  have g2 := m_146 (s := 285) r3 hnk (h := (h.si 277 0 0).sw 285 Q0) H (mk_285 H) (by rw [mi_sw, r2]) (by rw [w7, h7])
  rw [mi_sw, w7, r4] at g2
  simp -implicitDefEqProofs only [D_43_0, k_43_0, D_43_10, k_43_10, D_43_36, k_43_36, R_43, v_aload_n, g_iconst, v_callV2, aft_v, aft_n, g_if_ne, g_ireturn, v_iload_n, g_ldc, v_callS3, g_if_eq, g_bipush, v_callV1, g_getfield, sv_a, rf_s, v_callV3, g_lstore_n, g_istore, entL, getL, setL, kL_i, kL_r, isI_s, isR_s, isJ_s, gV_s, iV_i, cs0, cs1, cs2, cs3, cs4, dn_nil, kd_si, kd_sl, kd_sw, mr_si, mr_sl, mr_sw, ml_si, ml_sw, mi_sl, mk_277 H, mk_278 H, mk_279 H, mk_280 H, mk_281 H, mk_282 H, mk_283 H, mk_284 H, mk_285 H, mk_286 H, mk_287 H, mk_288 H, mk_289 H, mr_1 H, mr_11 H, mr_12 H, mr_13 H, mr_14 H, mr_15 H, mr_16 H, mr_17 H, mr_18 H, mr_19 H, mr_24 H, mr_25 H, m_138y H hl, ↓if_neg z_1, if_neg z_1, m_136, c, c2, m_182p H, r1, g2, setL2, nonL, kL_n, kL_j]
  obtain ⟨tl', h', ⟨Q, rfl⟩, e⟩ := lpe (P := PG) (y := 43) (pc := 64) (n := 16) (o := 0) (K := fun tl h' => ∃ Q, h' = (h.si 277 0 0).sw 285 Q) (f := mvS nk (fun f t => cmM (h.mi 283) f t x) g) (L := fun k a tl => some (.ref 277) :: some (.int x) :: some (.int t) :: some (.long a.1) :: none :: some (.int a.2) :: some (.int (Int32.ofNat k)) :: tl) (r := fun a h' => some (.inl (some (.int a.2)), h')) (by
    intro k a tl h' _ hk hK
    obtain ⟨Q, rfl⟩ := hK
    have z : ¬ (16 : Int32) ≤ Int32.ofNat k := by
      show ¬ Int32.ofNat 16 ≤ Int32.ofNat k
      rw [i32_le (by omega) (by omega)]; omega
    have z4 : ¬ (4 : Int32) = 0 := by decide
    have s1 : Int32.ofNat (k) + 1 = Int32.ofNat (k + 1) := i32_add (b := 1)
    have d1 : Int32.ofNat k / 4 = Int32.ofNat (k / 4) := i32_div (b := 4) (by omega) (by omega)
    have d2 : Int32.ofNat k - Int32.ofNat (k / 4) * 4 = Int32.ofNat (k % 4) := by
      have := i32_rem (a := k) (b := 4) (by omega) (by omega)
      rw [← d1]
      exact this
    have hf : k / 4 < 4 := by omega
    have ht : k % 4 < 4 := by omega
    have q1 := fun i => m_154 (i := i) (h := (h.si 277 0 0).sw 285 Q) H
    simp only [w7, h7] at q1
    by_cases cf : k / 4 < nk
    · have f1 := inF_y cf (show nk < 2147483648 by omega)
      by_cases ct : k % 4 < nk
      · have t1 := inF_y ct (show nk < 2147483648 by omega)
        have q2 := m_155 (x := x) hf ht (h := (h.si 277 0 0).sw 285 Q) H
        rw [wk3] at q2
        cases cm : cmM (h.mi 283) (k / 4) (k % 4) x with
        | false =>
          rw [cm] at q2
          have zz : mvS nk (fun f t => cmM (h.mi 283) f t x) g k a = a := by
            unfold mvS
            exact if_neg (fun q => by have := q.2; dsimp only at this; rw [cm] at this; exact Bool.false_ne_true this)
          refine ⟨some (.int (Int32.ofNat (k / 4))) :: some (.int (Int32.ofNat (k % 4))) :: tl.tail.tail, (h.si 277 0 0).sw 285 Q, ⟨Q, rfl⟩, ?_⟩
          rw [zz, D_43_64]
          simp -implicitDefEqProofs only [D_43_0, k_43_0, D_43_10, k_43_10, D_43_30, k_43_30, D_43_36, k_43_36, k_43_64, D_43_116, k_43_116, D_43_173, k_43_173, D_43_192, k_43_192, D_43_198, k_43_198, R_43, v_aload_n, g_iconst, v_callV2, aft_v, aft_n, g_if_ne, g_ireturn, v_iload_n, g_ldc, v_callS3, g_if_eq, g_bipush, v_callV1, g_getfield, sv_a, rf_s, v_callV3, g_lstore_n, g_istore, v_iload, g_icmp_ge, g_idiv, g_irem, v_callV4, g_goto, g_iadd, g_dup2, v_iaload, inI_0, g_isub, v_iastore, wrI_0, v_lload_n, g_lcmp, g_if_gt, g_imul, v_iinc, entL, getL, setL, kL_i, kL_r, isI_s, isR_s, isJ_s, gV_s, iV_i, cs0, cs1, cs2, cs3, cs4, dn_nil, kd_si, kd_sl, kd_sw, mr_si, mr_sl, mr_sw, ml_si, ml_sw, mi_sl, mk_277 H, mk_278 H, mk_279 H, mk_280 H, mk_281 H, mk_282 H, mk_283 H, mk_284 H, mk_285 H, mk_286 H, mk_287 H, mk_288 H, mk_289 H, mr_1 H, mr_11 H, mr_12 H, mr_13 H, mr_14 H, mr_15 H, mr_16 H, mr_17 H, mr_18 H, mr_19 H, mr_24 H, mr_25 H, ↓if_neg z, if_neg z, ↓if_neg z4, if_neg z4, d1, d2, q1, f1, t1, ↓if_neg z_1, if_neg z_1, q2, b2i_0, ↓if_true, if_true, setL_0, s1]
        | true =>
          rw [cm] at q2
          obtain ⟨Q', k', p1, p2, p3, p4⟩ := hr Q (k / 4) (k % 4) cf ct cm
          have q3 := m_146 (s := 285) p3 hnk (h := (h.si 277 0 0).sw 285 Q') H (mk_285 H) (by rw [mi_sw, p2]) (by rw [w7, h7])
          rw [mi_sw, w7, p4] at q3
          have q4 := m_182w H (W := Q)
          have b_1 : inb (Int32.ofNat (14 + k / 4)) 1168 = true := inb_nat (by omega) (by decide)
          have n_1 : (Int32.ofNat (14 + k / 4)).toNatClampNeg = 14 + k / 4 := i32_nat (by omega)
          have b_2 : inb (Int32.ofNat (14 + k % 4)) 1168 = true := inb_nat (by omega) (by decide)
          have n_2 : (Int32.ofNat (14 + k % 4)).toNatClampNeg = 14 + k % 4 := i32_nat (by omega)
          have l10 : (10 : Int32) * Int32.ofNat (k / 4) = Int32.ofNat (10 * (k / 4)) := i32_mul (a := 10)
          unfold shM at p1
          refine ⟨some (.int (Int32.ofNat (k / 4))) :: some (.int (Int32.ofNat (k % 4))) :: tl.tail.tail, (h.si 277 0 0).sw 285 Q', ⟨Q', rfl⟩, ?_⟩
          by_cases c1 : 0 < lg_cmp (g (k / 4) (k % 4)) a.1
          · have zz : mvS nk (fun f t => cmM (h.mi 283) f t x) g k a = (g (k / 4) (k % 4), Int32.ofNat (10 * (k / 4) + k % 4)) := by
              unfold mvS
              rw [if_pos ⟨⟨cf, ct⟩, cm⟩, if_pos c1]
            rw [zz, D_43_64]
            simp -implicitDefEqProofs only [D_43_0, k_43_0, D_43_10, k_43_10, D_43_30, k_43_30, D_43_36, k_43_36, k_43_64, D_43_116, k_43_116, D_43_173, k_43_173, D_43_192, k_43_192, D_43_198, k_43_198, R_43, v_aload_n, g_iconst, v_callV2, aft_v, aft_n, g_if_ne, g_ireturn, v_iload_n, g_ldc, v_callS3, g_if_eq, g_bipush, v_callV1, g_getfield, sv_a, rf_s, v_callV3, g_lstore_n, g_istore, v_iload, g_icmp_ge, g_idiv, g_irem, v_callV4, g_goto, g_iadd, g_dup2, v_iaload, inI_0, g_isub, v_iastore, wrI_0, v_lload_n, g_lcmp, g_if_gt, g_imul, v_iinc, entL, getL, setL, kL_i, kL_r, isI_s, isR_s, isJ_s, gV_s, iV_i, cs0, cs1, cs2, cs3, cs4, dn_nil, kd_si, kd_sl, kd_sw, mr_si, mr_sl, mr_sw, ml_si, ml_sw, mi_sl, mk_277 H, mk_278 H, mk_279 H, mk_280 H, mk_281 H, mk_282 H, mk_283 H, mk_284 H, mk_285 H, mk_286 H, mk_287 H, mk_288 H, mk_289 H, mr_1 H, mr_11 H, mr_12 H, mr_13 H, mr_14 H, mr_15 H, mr_16 H, mr_17 H, mr_18 H, mr_19 H, mr_24 H, mr_25 H, ↓if_neg z, if_neg z, ↓if_neg z4, if_neg z4, d1, d2, q1, f1, t1, ↓if_neg z_1, if_neg z_1, q2, b2i_1, q4, la_14, b_1, n_1, b_2, n_2, si_sw (a := 285), sw_sw, mi_sw, p1, q3, ↓if_pos c1, if_pos c1, setL2, nonL, kL_n, kL_j, l10, i32_add, setL_0, s1]
          · have zz : mvS nk (fun f t => cmM (h.mi 283) f t x) g k a = a := by
              unfold mvS
              rw [if_pos ⟨⟨cf, ct⟩, cm⟩, if_neg c1]
            rw [zz, D_43_64]
            simp -implicitDefEqProofs only [D_43_0, k_43_0, D_43_10, k_43_10, D_43_30, k_43_30, D_43_36, k_43_36, k_43_64, D_43_116, k_43_116, D_43_173, k_43_173, D_43_192, k_43_192, D_43_198, k_43_198, R_43, v_aload_n, g_iconst, v_callV2, aft_v, aft_n, g_if_ne, g_ireturn, v_iload_n, g_ldc, v_callS3, g_if_eq, g_bipush, v_callV1, g_getfield, sv_a, rf_s, v_callV3, g_lstore_n, g_istore, v_iload, g_icmp_ge, g_idiv, g_irem, v_callV4, g_goto, g_iadd, g_dup2, v_iaload, inI_0, g_isub, v_iastore, wrI_0, v_lload_n, g_lcmp, g_if_gt, g_imul, v_iinc, entL, getL, setL, kL_i, kL_r, isI_s, isR_s, isJ_s, gV_s, iV_i, cs0, cs1, cs2, cs3, cs4, dn_nil, kd_si, kd_sl, kd_sw, mr_si, mr_sl, mr_sw, ml_si, ml_sw, mi_sl, mk_277 H, mk_278 H, mk_279 H, mk_280 H, mk_281 H, mk_282 H, mk_283 H, mk_284 H, mk_285 H, mk_286 H, mk_287 H, mk_288 H, mk_289 H, mr_1 H, mr_11 H, mr_12 H, mr_13 H, mr_14 H, mr_15 H, mr_16 H, mr_17 H, mr_18 H, mr_19 H, mr_24 H, mr_25 H, ↓if_neg z, if_neg z, ↓if_neg z4, if_neg z4, d1, d2, q1, f1, t1, ↓if_neg z_1, if_neg z_1, q2, b2i_1, q4, la_14, b_1, n_1, b_2, n_2, si_sw (a := 285), sw_sw, mi_sw, p1, q3, ↓if_neg c1, if_neg c1, setL2, nonL, kL_n, kL_j, setL_0, s1]
      · have t1 := inF_n (i := Int32.ofNat (k % 4)) (m := nk) (by omega) (Or.inr (by rw [i32_lt (by omega) (by omega)]; exact ct))
        have zz : mvS nk (fun f t => cmM (h.mi 283) f t x) g k a = a := by
          unfold mvS
          exact if_neg (fun q => ct q.1.2)
        refine ⟨some (.int (Int32.ofNat (k / 4))) :: some (.int (Int32.ofNat (k % 4))) :: tl.tail.tail, (h.si 277 0 0).sw 285 Q, ⟨Q, rfl⟩, ?_⟩
        rw [zz, D_43_64]
        simp -implicitDefEqProofs only [D_43_0, k_43_0, D_43_10, k_43_10, D_43_30, k_43_30, D_43_36, k_43_36, k_43_64, D_43_116, k_43_116, D_43_173, k_43_173, D_43_192, k_43_192, D_43_198, k_43_198, R_43, v_aload_n, g_iconst, v_callV2, aft_v, aft_n, g_if_ne, g_ireturn, v_iload_n, g_ldc, v_callS3, g_if_eq, g_bipush, v_callV1, g_getfield, sv_a, rf_s, v_callV3, g_lstore_n, g_istore, v_iload, g_icmp_ge, g_idiv, g_irem, v_callV4, g_goto, g_iadd, g_dup2, v_iaload, inI_0, g_isub, v_iastore, wrI_0, v_lload_n, g_lcmp, g_if_gt, g_imul, v_iinc, entL, getL, setL, kL_i, kL_r, isI_s, isR_s, isJ_s, gV_s, iV_i, cs0, cs1, cs2, cs3, cs4, dn_nil, kd_si, kd_sl, kd_sw, mr_si, mr_sl, mr_sw, ml_si, ml_sw, mi_sl, mk_277 H, mk_278 H, mk_279 H, mk_280 H, mk_281 H, mk_282 H, mk_283 H, mk_284 H, mk_285 H, mk_286 H, mk_287 H, mk_288 H, mk_289 H, mr_1 H, mr_11 H, mr_12 H, mr_13 H, mr_14 H, mr_15 H, mr_16 H, mr_17 H, mr_18 H, mr_19 H, mr_24 H, mr_25 H, ↓if_neg z, if_neg z, ↓if_neg z4, if_neg z4, d1, d2, q1, f1, t1, ↓if_neg z_1, if_neg z_1, ↓if_true, if_true, setL_0, s1]
    · have f1 := inF_n (i := Int32.ofNat (k / 4)) (m := nk) (by omega) (Or.inr (by rw [i32_lt (by omega) (by omega)]; exact cf))
      have zz : mvS nk (fun f t => cmM (h.mi 283) f t x) g k a = a := by
        unfold mvS
        exact if_neg (fun q => cf q.1.1)
      refine ⟨some (.int (Int32.ofNat (k / 4))) :: some (.int (Int32.ofNat (k % 4))) :: tl.tail.tail, (h.si 277 0 0).sw 285 Q, ⟨Q, rfl⟩, ?_⟩
      rw [zz, D_43_64]
      simp -implicitDefEqProofs only [D_43_0, k_43_0, D_43_10, k_43_10, D_43_30, k_43_30, D_43_36, k_43_36, k_43_64, D_43_116, k_43_116, D_43_173, k_43_173, D_43_192, k_43_192, D_43_198, k_43_198, R_43, v_aload_n, g_iconst, v_callV2, aft_v, aft_n, g_if_ne, g_ireturn, v_iload_n, g_ldc, v_callS3, g_if_eq, g_bipush, v_callV1, g_getfield, sv_a, rf_s, v_callV3, g_lstore_n, g_istore, v_iload, g_icmp_ge, g_idiv, g_irem, v_callV4, g_goto, g_iadd, g_dup2, v_iaload, inI_0, g_isub, v_iastore, wrI_0, v_lload_n, g_lcmp, g_if_gt, g_imul, v_iinc, entL, getL, setL, kL_i, kL_r, isI_s, isR_s, isJ_s, gV_s, iV_i, cs0, cs1, cs2, cs3, cs4, dn_nil, kd_si, kd_sl, kd_sw, mr_si, mr_sl, mr_sw, ml_si, ml_sw, mi_sl, mk_277 H, mk_278 H, mk_279 H, mk_280 H, mk_281 H, mk_282 H, mk_283 H, mk_284 H, mk_285 H, mk_286 H, mk_287 H, mk_288 H, mk_289 H, mr_1 H, mr_11 H, mr_12 H, mr_13 H, mr_14 H, mr_15 H, mr_16 H, mr_17 H, mr_18 H, mr_19 H, mr_24 H, mr_25 H, ↓if_neg z, if_neg z, ↓if_neg z4, if_neg z4, d1, d2, q1, f1, ↓if_true, if_true, setL_0, s1]) (by
    intro a tl h' hK
    have z : (16 : Int32) ≤ Int32.ofNat 16 := by decide
    rw [D_43_64]
    simp -implicitDefEqProofs only [D_43_0, k_43_0, D_43_10, k_43_10, D_43_30, k_43_30, D_43_36, k_43_36, k_43_64, D_43_116, k_43_116, D_43_173, k_43_173, D_43_192, k_43_192, D_43_198, k_43_198, R_43, v_aload_n, g_iconst, v_callV2, aft_v, aft_n, g_if_ne, g_ireturn, v_iload_n, g_ldc, v_callS3, g_if_eq, g_bipush, v_callV1, g_getfield, sv_a, rf_s, v_callV3, g_lstore_n, g_istore, v_iload, g_icmp_ge, g_idiv, g_irem, v_callV4, g_goto, g_iadd, g_dup2, v_iaload, inI_0, g_isub, v_iastore, wrI_0, v_lload_n, g_lcmp, g_if_gt, g_imul, v_iinc, entL, getL, setL, kL_i, kL_r, isI_s, isR_s, isJ_s, gV_s, iV_i, cs0, cs1, cs2, cs3, cs4, dn_nil, kd_si, kd_sl, kd_sw, mr_si, mr_sl, mr_sw, ml_si, ml_sw, mi_sl, ↓if_pos z, if_pos z, retX_int]) 16 0 (g0, -1) [] ((h.si 277 0 0).sw 285 Q0) (by omega) (by omega) ⟨_, rfl⟩
  exact ⟨Q, e⟩
