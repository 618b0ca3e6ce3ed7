-- ===== the model: the report =====
def mrB (le : Nat → Nat) (ct ctn tg tgn ex exn la lan qu qun er ern : Nat) (t : Tt) : Tt := tN er ern (tC 32 (tN qu qun (tC 47 (tN la lan (tC 32 (tN ex exn (tC 32 (tN tg tgn (tC 120 (tN ct ctn (tC 32 (fl (nmS le) 9 0 t))))))))))))
def mrK (le : Nat → Nat → Nat) (ct tg ex la qu er : Rn) (k : Nat) (t : Tt) : Tt := mrB (le k) (ct k).1 (ct k).2 (tg k).1 (tg k).2 (ex k).1 (ex k).2 (la k).1 (la k).2 (qu k).1 (qu k).2 (er k).1 (er k).2 (if 0 < k then tC 59 t else t)
theorem R_7 : PG.2.1 7 = (some .int) := rfl
theorem m_7n {h : Mm} (H : MO h) (hl : h.mi 277 21 = 0) : dM PG 7 [.ref 277] h = some (.inl (some (.int 0)), h.si 277 0 1) := by
  rw [dM_of (Nat.le_of_ble_eq_true rfl)]
  simp -implicitDefEqProofs only [D_7_0, k_7_0, R_7, v_aload_n, g_iconst, v_callV2, aft_v, aft_n, g_if_ne, g_ireturn, entL, getL, setL, kL_i, kL_r, isI_s, isR_s, isJ_s, gV_s, iV_i, cs0, cs1, cs2, cs3, cs4, dn_nil, kd_si, kd_sl, kd_sw, mr_si, mr_sl, mr_sw, ml_si, ml_sw, mi_sl, mk_277 H, mk_278 H, mk_279 H, mk_280 H, mk_281 H, mk_282 H, mk_283 H, mk_284 H, mk_285 H, mk_286 H, mk_287 H, mk_288 H, mk_289 H, mr_1 H, mr_11 H, mr_12 H, mr_13 H, mr_14 H, mr_15 H, mr_16 H, mr_17 H, mr_18 H, mr_19 H, mr_24 H, mr_25 H, m_138n H hl, ↓if_true, if_true, retX_int]
theorem t_7 {k n0 : Nat} {le : Nat → Nat} {ct ctn tg tgn ex exn la lan qu qun er ern n : Nat} (hk : k < 4) (hn : n ≤ 80) {h : Mm} (H : MO h) {P0 : Nat → Int32} {t : Tt} (R0 : PgR P0 n0 t) (hm : n0 + (9 + 1 + ctn + 1 + tgn + 1 + exn + 1 + lan + 1 + qun + 1 + ern) ≤ 300) (h8 : h.mi 283 8 = Int32.ofNat n) (hle : ∀ i, i < 9 → lt5 (h.ml 281 k) i = Int32.ofNat (le i) ∧ le i < 32) (e1 : fl (bxS (h.mi 283) (Int32.ofNat k)) n 0 0 = Int32.ofNat ct) (N1 : num ct ctn) (e2 : h.mi 283 (10 + k) = Int32.ofNat tg) (N2 : num tg tgn) (e3 : fl (ovS (h.mi 283) (Int32.ofNat k)) n 0 0 = Int32.ofNat ex) (N3 : num ex exn) (e4 : h.mi 283 (18 + k) = Int32.ofNat la) (N4 : num la lan) (e5 : h.mi 283 (14 + k) = Int32.ofNat qu) (N5 : num qu qun) (e6 : emF (h.mi 279 (12 + k)) (h.mi 283) k n = Int32.ofNat er) (N6 : num er ern) : ∃ P' n', dB PG 7 38 [some (.ref 277), some (.int (Int32.ofNat k))] [] ((h.si 277 0 0).pg P0 n0) = dB PG 7 17 [some (.ref 277), some (.int (Int32.ofNat (k + 1)))] [] ((h.si 277 0 0).pg P' n') ∧ PgR P' n' (mrB le ct ctn tg tgn ex exn la lan qu qun er ern t) ∧ n' ≤ n0 + (9 + 1 + ctn + 1 + tgn + 1 + exn + 1 + lan + 1 + qun + 1 + ern) := by
  have H0 : MO (h.si 277 0 0) := H
  obtain ⟨P1, n1, g1, R1, l1⟩ := m_140 hle H0 R0 (by omega)
  obtain ⟨P2, g2, R2⟩ := mt_c (x := 32) (show n1 < 300 by omega) H0 R1
  obtain ⟨P3, g3, R3⟩ := m_142 N1.2 N1.1 H0 R2 (by omega)
  obtain ⟨P4, g4, R4⟩ := mt_c (x := 120) (show n1 + 1 + ctn < 300 by omega) H0 R3
  obtain ⟨P5, g5, R5⟩ := m_142 N2.2 N2.1 H0 R4 (by omega)
  obtain ⟨P6, g6, R6⟩ := mt_c (x := 32) (show n1 + 1 + ctn + 1 + tgn < 300 by omega) H0 R5
  obtain ⟨P7, g7, R7⟩ := m_142 N3.2 N3.1 H0 R6 (by omega)
  obtain ⟨P8, g8, R8⟩ := mt_c (x := 32) (show n1 + 1 + ctn + 1 + tgn + 1 + exn < 300 by omega) H0 R7
  obtain ⟨P9, g9, R9⟩ := m_142 N4.2 N4.1 H0 R8 (by omega)
  obtain ⟨P10, g10, R10⟩ := mt_c (x := 47) (show n1 + 1 + ctn + 1 + tgn + 1 + exn + 1 + lan < 300 by omega) H0 R9
  obtain ⟨P11, g11, R11⟩ := m_142 N5.2 N5.1 H0 R10 (by omega)
  obtain ⟨P12, g12, R12⟩ := mt_c (x := 32) (show n1 + 1 + ctn + 1 + tgn + 1 + exn + 1 + lan + 1 + qun < 300 by omega) H0 R11
  obtain ⟨P13, g13, R13⟩ := m_142 N6.2 N6.1 H0 R12 (by omega)
  rw [show Int32.ofNat 32 = 32 from rfl] at g2 g6 g8 g12
  rw [show Int32.ofNat 120 = 120 from rfl] at g4
  rw [show Int32.ofNat 47 = 47 from rfl] at g10
  have w3 : ∀ P n, ((h.si 277 0 0).pg P n).mi 283 = h.mi 283 := fun P n => (pg_o (by decide) (by decide)).trans (mi_sa k283)
  have w9 : ∀ P n, ((h.si 277 0 0).pg P n).mi 279 = h.mi 279 := fun P n => (pg_o (by decide) (by decide)).trans (mi_sa k279)
  have b_1 : inb (Int32.ofNat (k)) 4 = true := inb_nat (by omega) (by decide)
  have n_1 : (Int32.ofNat (k)).toNatClampNeg = k := i32_nat (by omega)
  have b_2 : inb (Int32.ofNat (10 + k)) 1168 = true := inb_nat (by omega) (by decide)
  have n_2 : (Int32.ofNat (10 + k)).toNatClampNeg = 10 + k := i32_nat (by omega)
  have b_3 : inb (Int32.ofNat (18 + k)) 1168 = true := inb_nat (by omega) (by decide)
  have n_3 : (Int32.ofNat (18 + k)).toNatClampNeg = 18 + k := i32_nat (by omega)
  have b_4 : inb (Int32.ofNat (14 + k)) 1168 = true := inb_nat (by omega) (by decide)
  have n_4 : (Int32.ofNat (14 + k)).toNatClampNeg = 14 + k := i32_nat (by omega)
  have s1 : Int32.ofNat (k) + 1 = Int32.ofNat (k + 1) := i32_add (b := 1)
  have q1 : ∀ P m, dM PG 141 [.ref 283, .int 0, .int (Int32.ofNat k)] ((h.si 277 0 0).pg P m) = some (.inl (some (.int (Int32.ofNat ct))), (h.si 277 0 0).pg P m) := fun P m => by
    have g := m_141 (s := 283) (x := Int32.ofNat k) hn (Nat.zero_le n) (h := (h.si 277 0 0).pg P m) (mk_283 H) (by rw [w3, h8])
    rw [w3, show Int32.ofNat 0 = 0 from rfl, Nat.sub_zero, e1] at g
    exact g
  have q3 : ∀ P m, dM PG 143 [.ref 283, .int 0, .int (Int32.ofNat k)] ((h.si 277 0 0).pg P m) = some (.inl (some (.int (Int32.ofNat ex))), (h.si 277 0 0).pg P m) := fun P m => by
    have g := m_143 (s := 283) (x := Int32.ofNat k) hn (Nat.zero_le n) (h := (h.si 277 0 0).pg P m) (mk_283 H) (by rw [w3, h8])
    rw [w3, show Int32.ofNat 0 = 0 from rfl, Nat.sub_zero, e3] at g
    exact g
  have q6 : ∀ P m, dM PG 144 [.ref 277, .ref 283, .int (Int32.ofNat k)] ((h.si 277 0 0).pg P m) = some (.inl (some (.int (Int32.ofNat er))), (h.si 277 0 0).pg P m) := fun P m => by
    have g := m_144 (s := 283) hn hk (h := (h.si 277 0 0).pg P m) H (mk_283 H) (by rw [w3, h8])
    rw [w3, w9, e6] at g
    exact g
  refine ⟨P13, _, ?_, R13, by omega⟩
  simp -implicitDefEqProofs only [D_7_38, k_7_38, v_aload_n, g_getfield, sv_a, rf_s, g_getfieldS, v_iload_n, v_laload, inJ_0, v_callV2, aft_v, aft_n, g_bipush, g_iconst, v_callS3, g_iadd, v_iaload, inI_0, v_callV3, v_iinc, g_goto, entL, getL, setL, kL_i, kL_r, isI_s, isR_s, isJ_s, gV_s, iV_i, cs0, cs1, cs2, cs3, cs4, dn_nil, kd_si, kd_sl, kd_sw, mr_si, mr_sl, mr_sw, ml_si, ml_sw, mi_sl, mk_277 H, mk_278 H, mk_279 H, mk_280 H, mk_281 H, mk_282 H, mk_283 H, mk_284 H, mk_285 H, mk_286 H, mk_287 H, mk_288 H, mk_289 H, mr_1 H, mr_11 H, mr_12 H, mr_13 H, mr_14 H, mr_15 H, mr_16 H, mr_17 H, mr_18 H, mr_19 H, mr_24 H, mr_25 H, pg_k, pg_r, pg_l, w3, la_10, la_14, la_18, b_1, n_1, b_2, n_2, b_3, n_3, b_4, n_4, g1, g2, q1, g3, g4, e2, g5, g6, q3, g7, g8, e4, g9, g10, e5, g11, g12, q6, g13, s1]
theorem m_7y {n nk al aln cln : Nat} {le : Nat → Nat → Nat} {ct tg ex la qu er : Rn} (hnk : nk ≤ 4) (hn : n ≤ 80) {h : Mm} (H : MO h) (WS : WSM h) (hl : ¬ h.mi 277 21 = 0) (h7 : h.mi 279 7 = Int32.ofNat nk) (h8 : h.mi 283 8 = Int32.ofNat n) (hle : ∀ k, k < nk → ∀ i, i < 9 → lt5 (h.ml 281 k) i = Int32.ofNat (le k i) ∧ le k i < 32)
    (hN : ∀ k, k < nk → (fl (bxS (h.mi 283) (Int32.ofNat k)) n 0 0 = Int32.ofNat (ct k).1 ∧ num (ct k).1 (ct k).2) ∧ (h.mi 283 (10 + k) = Int32.ofNat (tg k).1 ∧ num (tg k).1 (tg k).2) ∧ (fl (ovS (h.mi 283) (Int32.ofNat k)) n 0 0 = Int32.ofNat (ex k).1 ∧ num (ex k).1 (ex k).2) ∧ (h.mi 283 (18 + k) = Int32.ofNat (la k).1 ∧ num (la k).1 (la k).2) ∧ (h.mi 283 (14 + k) = Int32.ofNat (qu k).1 ∧ num (qu k).1 (qu k).2) ∧ (emF (h.mi 279 (12 + k)) (h.mi 283) k n = Int32.ofNat (er k).1 ∧ num (er k).1 (er k).2) ∧ rsL 9 (ct k).2 (tg k).2 (ex k).2 (la k).2 (qu k).2 (er k).2 ≤ 60)
    (hcl : num n cln) (hal : (fl (eaM (fun k => h.mi 279 (12 + k)) (h.mi 283) n) nk 0 0).toInt32 = Int32.ofNat al) (Nal : num al aln) (cs : Nat → Nat) : ∃ P m, dM PG 7 [.ref 277] h = some (.inl (some (.int (Int32.ofNat m))), (h.si 277 0 0).pg P m) ∧ PgR P m (tN al aln (tC 32 (tN n cln (tS 5 (wC ";all ") (fl (mrK le ct tg ex la qu er) nk 0 (0, cs)))))) := by
  have H0 : MO (h.si 277 0 0) := H
  have w3 : ∀ P n, ((h.si 277 0 0).pg P n).mi 283 = h.mi 283 := fun P n => (pg_o (by decide) (by decide)).trans (mi_sa k283)
  have w9 : ∀ P n, ((h.si 277 0 0).pg P n).mi 279 = h.mi 279 := fun P n => (pg_o (by decide) (by decide)).trans (mi_sa k279)
  have R0 : PgR (h.mi 289) 0 (0, cs) := ⟨rfl, fun j hj => absurd hj (Nat.not_lt_zero j)⟩
  obtain ⟨tl2, h2, ⟨htl, P2, n2, rfl, R2, l2⟩, e2⟩ := lia (P := PG) (y := 7) (pc := 17) (n := nk) (o := 0) (f := mrK le ct tg ex la qu er) (K := fun i t tl h' => tl = [] ∧ ∃ P n', h' = (h.si 277 0 0).pg P n' ∧ PgR P n' t ∧ n' ≤ 60 * i) (L := fun k t tl => some (.ref 277) :: some (.int (Int32.ofNat k)) :: tl) (by
    intro k t tl h' _ hk hKK
    obtain ⟨rfl, P, n', rfl, R, ln⟩ := hKK
    obtain ⟨⟨b1, b1'⟩, ⟨b2, b2'⟩, ⟨b3, b3'⟩, ⟨b4, b4'⟩, ⟨b5, b5'⟩, ⟨b6, b6'⟩, b7⟩ := hN k hk
    unfold rsL at b7
    have ek : ¬ Int32.ofNat (nk) ≤ Int32.ofNat (k) := by rw [i32_le (by omega) (by omega)]; omega
    by_cases k0 : 0 < k
    · obtain ⟨P1, g1, R1⟩ := mt_c (x := 59) (show n' < 300 by omega) H0 R
      rw [show Int32.ofNat 59 = 59 from rfl] at g1
      obtain ⟨P3, n3, g3, R3, l3⟩ := t_7 (show k < 4 by omega) hn H R1 (by omega) h8 (hle k hk) b1 b1' b2 b2' b3 b3' b4 b4' b5 b5' b6 b6'
      refine ⟨[], _, ⟨rfl, P3, n3, rfl, ?_, by omega⟩, ?_⟩
      · unfold mrK; rw [if_pos k0]; exact R3
      · have c0 : ¬ Int32.ofNat k ≤ 0 := by
          show ¬ Int32.ofNat k ≤ Int32.ofNat 0
          rw [i32_le (by omega) (by omega)]; omega
        rw [← g3, D_7_17]
        simp -implicitDefEqProofs only [D_7_0, k_7_0, D_7_10, k_7_10, k_7_17, k_7_38, D_7_168, k_7_168, R_7, v_aload_n, g_iconst, v_callV2, aft_v, aft_n, g_if_ne, g_ireturn, g_put_i, g_istore_n, v_iload_n, g_getfield, sv_a, rf_s, g_getfieldS, g_bipush, v_iaload, inI_0, g_icmp_ge, g_if_le, v_laload, inJ_0, v_callS3, g_iadd, v_callV3, v_iinc, g_goto, g_ldc_w, g_l2i, sv_i, entL, getL, setL, kL_i, kL_r, isI_s, isR_s, isJ_s, gV_s, iV_i, cs0, cs1, cs2, cs3, cs4, dn_nil, kd_si, kd_sl, kd_sw, mr_si, mr_sl, mr_sw, ml_si, ml_sw, mi_sl, mk_277 H, mk_278 H, mk_279 H, mk_280 H, mk_281 H, mk_282 H, mk_283 H, mk_284 H, mk_285 H, mk_286 H, mk_287 H, mk_288 H, mk_289 H, mr_1 H, mr_11 H, mr_12 H, mr_13 H, mr_14 H, mr_15 H, mr_16 H, mr_17 H, mr_18 H, mr_19 H, mr_24 H, mr_25 H, pg_k, pg_r, w9, ip_7, ix_7, h7, ↓if_neg ek, if_neg ek, ↓if_neg c0, if_neg c0, g1]
    · obtain rfl : k = 0 := by omega
      obtain ⟨P3, n3, g3, R3, l3⟩ := t_7 (show 0 < 4 by omega) hn H R (by omega) h8 (hle 0 hk) b1 b1' b2 b2' b3 b3' b4 b4' b5 b5' b6 b6'
      refine ⟨[], _, ⟨rfl, P3, n3, rfl, ?_, by omega⟩, ?_⟩
      · unfold mrK; rw [if_neg k0]; exact R3
      · have c0 : Int32.ofNat 0 ≤ 0 := by decide
        rw [← g3, D_7_17]
        simp -implicitDefEqProofs only [D_7_0, k_7_0, D_7_10, k_7_10, k_7_17, k_7_38, D_7_168, k_7_168, R_7, v_aload_n, g_iconst, v_callV2, aft_v, aft_n, g_if_ne, g_ireturn, g_put_i, g_istore_n, v_iload_n, g_getfield, sv_a, rf_s, g_getfieldS, g_bipush, v_iaload, inI_0, g_icmp_ge, g_if_le, v_laload, inJ_0, v_callS3, g_iadd, v_callV3, v_iinc, g_goto, g_ldc_w, g_l2i, sv_i, entL, getL, setL, kL_i, kL_r, isI_s, isR_s, isJ_s, gV_s, iV_i, cs0, cs1, cs2, cs3, cs4, dn_nil, kd_si, kd_sl, kd_sw, mr_si, mr_sl, mr_sw, ml_si, ml_sw, mi_sl, mk_277 H, mk_278 H, mk_279 H, mk_280 H, mk_281 H, mk_282 H, mk_283 H, mk_284 H, mk_285 H, mk_286 H, mk_287 H, mk_288 H, mk_289 H, mr_1 H, mr_11 H, mr_12 H, mr_13 H, mr_14 H, mr_15 H, mr_16 H, mr_17 H, mr_18 H, mr_19 H, mr_24 H, mr_25 H, pg_k, pg_r, w9, ip_7, ix_7, h7, ↓if_neg ek, if_neg ek, ↓if_pos c0, if_pos c0]) nk 0 (0, cs) [] ((h.si 277 0 0).pg (h.mi 289) 0) (Nat.zero_le 0) (by omega) ⟨rfl, _, _, rfl, R0, Nat.le_refl 0⟩
  subst htl
  generalize fl (mrK le ct tg ex la qu er) nk 0 (0, cs) = t2 at R2 ⊢
  have c9 := dgK_10 hcl.1 hcl.2
  have a9 := dgK_10 Nal.1 Nal.2
  obtain ⟨P3, g3, R3⟩ := m_145 H0 (by decide) (by decide) (STR_si WS.2.2 (by decide) (by decide)) R2 (by omega)
  obtain ⟨P4, g4, R4⟩ := m_142 hcl.2 hcl.1 H0 R3 (by omega)
  obtain ⟨P5, g5, R5⟩ := mt_c (x := 32) (show n2 + 5 + cln < 300 by omega) H0 R4
  obtain ⟨P6, g6, R6⟩ := m_142 Nal.2 Nal.1 H0 R5 (by omega)
  rw [show Int32.ofNat 32 = 32 from rfl] at g5
  have q5 := m_146 (s := 283) hn hnk (h := (h.si 277 0 0).pg P5 (n2 + 5 + cln + 1)) H (mk_283 H) (by rw [w3, h8]) (by rw [w9, h7])
  rw [w3, w9] at q5
  have en : Int32.ofNat (nk) ≤ Int32.ofNat (nk) := by rw [i32_le (by omega) (by omega)]; omega
  refine ⟨P6, _, ?_, R6⟩
  rw [dM_of (Nat.le_of_ble_eq_true rfl)]
  simp -implicitDefEqProofs only [D_7_0, k_7_0, D_7_10, k_7_10, R_7, v_aload_n, g_iconst, v_callV2, aft_v, aft_n, g_if_ne, g_ireturn, g_put_i, g_istore_n, entL, getL, setL, kL_i, kL_r, isI_s, isR_s, isJ_s, gV_s, iV_i, cs0, cs1, cs2, cs3, cs4, dn_nil, kd_si, kd_sl, kd_sw, mr_si, mr_sl, mr_sw, ml_si, ml_sw, mi_sl, mk_277 H, mk_278 H, mk_279 H, mk_280 H, mk_281 H, mk_282 H, mk_283 H, mk_284 H, mk_285 H, mk_286 H, mk_287 H, mk_288 H, mk_289 H, mr_1 H, mr_11 H, mr_12 H, mr_13 H, mr_14 H, mr_15 H, mr_16 H, mr_17 H, mr_18 H, mr_19 H, mr_24 H, mr_25 H, m_138y H hl, ↓if_neg z_1, if_neg z_1, pg_ini]
  refine Eq.trans ?_ (e2.trans ?_)
  · exact congrArg (fun z => dB PG 7 17 [some (.ref 277), some (.int z)] [] ((h.si 277 0 0).pg (h.mi 289) 0)) (show (0 : Int32) = Int32.ofNat 0 from rfl)
  · rw [D_7_17]
    simp -implicitDefEqProofs only [D_7_0, k_7_0, D_7_10, k_7_10, k_7_17, k_7_38, D_7_168, k_7_168, R_7, v_aload_n, g_iconst, v_callV2, aft_v, aft_n, g_if_ne, g_ireturn, g_put_i, g_istore_n, v_iload_n, g_getfield, sv_a, rf_s, g_getfieldS, g_bipush, v_iaload, inI_0, g_icmp_ge, g_if_le, v_laload, inJ_0, v_callS3, g_iadd, v_callV3, v_iinc, g_goto, g_ldc_w, g_l2i, sv_i, entL, getL, setL, kL_i, kL_r, isI_s, isR_s, isJ_s, gV_s, iV_i, cs0, cs1, cs2, cs3, cs4, dn_nil, kd_si, kd_sl, kd_sw, mr_si, mr_sl, mr_sw, ml_si, ml_sw, mi_sl, mk_277 H, mk_278 H, mk_279 H, mk_280 H, mk_281 H, mk_282 H, mk_283 H, mk_284 H, mk_285 H, mk_286 H, mk_287 H, mk_288 H, mk_289 H, mr_1 H, mr_11 H, mr_12 H, mr_13 H, mr_14 H, mr_15 H, mr_16 H, mr_17 H, mr_18 H, mr_19 H, mr_24 H, mr_25 H, pg_k, pg_r, w9, w3, ip_7, ix_7, in_8, ix_8, h7, h8, ↓if_pos en, if_pos en, g3, g4, g5, q5, hal, g6, pg_n, retX_int]
