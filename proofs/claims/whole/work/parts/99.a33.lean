-- ===== append: the methods =====
def tx4 (T : Nat → Nat) (m : Nat) (v : Int32) : Nat → Nat := zu (zu (zu (zu T m (byN v 24)) (m + 1) (byN v 16)) (m + 1 + 1) (byN v 8)) (m + 1 + 1 + 1) (byN v 0)
def tx20 (T : Nat → Nat) (m : Nat) (a b c d e : Int32) : Nat → Nat := tx4 (tx4 (tx4 (tx4 (tx4 T m a) (m + 4) b) (m + 8) c) (m + 12) d) (m + 16) e
def CBt (B : Nat → Int32) (m : Nat) (T : Nat → Nat) : Prop := ∀ j, j < m → T j < 256 ∧ B j = sb8 (T j)
def CMt (B : Nat → Int32) (m : Nat) (T : Nat → Nat) : Prop := ∀ j, j < m → T j < 256 ∧ B j = Int32.ofNat (T j)
theorem CBt_s {B : Nat → Int32} {m x : Nat} {T : Nat → Nat} (C : CBt B m T) (hx : x < 256) : CBt (zu B m (sb8 x)) (m + 1) (zu T m x) := fun j hj => by
  by_cases c : j = m
  · rw [c, zu_same, zu_same]
    exact ⟨hx, rfl⟩
  · rw [zu_o c, zu_o c]
    exact C j (by omega)
theorem CMt_s {B : Nat → Int32} {m x : Nat} {T : Nat → Nat} (C : CMt B m T) (hx : x < 256) : CMt (zu B m (Int32.ofNat x)) (m + 1) (zu T m x) := fun j hj => by
  by_cases c : j = m
  · rw [c, zu_same, zu_same]
    exact ⟨hx, rfl⟩
  · rw [zu_o c, zu_o c]
    exact C j (by omega)
theorem si_same {h : Mm} {a k : Nat} : h.si a k (h.mi a k) = h := by
  rw [si_sw (a := a), zu_id rfl, sw_id]
def Mm.ba (h : Mm) (B : Nat → Int32) (m : Nat) : Mm := (h.sw 201 B).si 200 1 (Int32.ofNat m)
def Mm.bm (h : Mm) (B : Nat → Int32) (m : Nat) : Mm := (h.sw 278 B).si 277 2 (Int32.ofNat m)
section AP
variable {h : Mm} {B : Nat → Int32} {m : Nat} {T : Nat → Nat} {v : Int32}
theorem ba_k : (h.ba B m).kd = h.kd := rfl
theorem ba_r : (h.ba B m).mr = h.mr := rfl
theorem ba_p : (h.ba B m).mi 201 = B := (mi_sa (by decide)).trans mi_sw
theorem ba_n : (h.ba B m).mi 200 1 = Int32.ofNat m := mi_ss
theorem ba_w {Q : Nat → Int32} {k : Nat} : ((h.ba B m).sw 201 Q).si 200 1 (Int32.ofNat k) = h.ba Q k := by
  unfold Mm.ba
  rw [sw_si (by decide), sw_sw, si_si]
theorem ba_e {Q : Nat → Int32} : ((h.ba B m).sw 201 Q).mi 200 1 = Int32.ofNat m := by rw [mi_swo (by decide), ba_n]
theorem ba_id : h.mi 200 1 = Int32.ofNat m → h.ba (h.mi 201) m = h := fun e => by
  unfold Mm.ba
  rw [sw_id, ← e]
  exact si_same
theorem bm_k : (h.bm B m).kd = h.kd := rfl
theorem bm_r : (h.bm B m).mr = h.mr := rfl
theorem bm_p : (h.bm B m).mi 278 = B := (mi_sa (by decide)).trans mi_sw
theorem bm_n : (h.bm B m).mi 277 2 = Int32.ofNat m := mi_ss
theorem bm_w {Q : Nat → Int32} {k : Nat} : ((h.bm B m).sw 278 Q).si 277 2 (Int32.ofNat k) = h.bm Q k := by
  unfold Mm.bm
  rw [sw_si (by decide), sw_sw, si_si]
theorem bm_e {Q : Nat → Int32} : ((h.bm B m).sw 278 Q).mi 277 2 = Int32.ofNat m := by rw [mi_swo (by decide), bm_n]
theorem bm_id : h.mi 277 2 = Int32.ofNat m → h.bm (h.mi 278) m = h := fun e => by
  unfold Mm.bm
  rw [sw_id, ← e]
  exact si_same
theorem R_228 : PG.2.1 228 = none := rfl
theorem s_228 (k0 : h.kd 200 = some (.inl 7)) (r0 : h.mr 200 0 = some 201) (kb : h.kd 201 = some (.inr (.byte, 1500))) (hm : m + 4 ≤ 1500) (C : CBt B m T) : ∃ B', dM PG 228 [.ref 200, .int v] (h.ba B m) = some (.inl none, h.ba B' (m + 4)) ∧ CBt B' (m + 4) (tx4 T m v) := by
  have n24 : ¬ (24 : Int32) < 0 := by decide
  have n16 : ¬ (16 : Int32) < 0 := by decide
  have n8 : ¬ (8 : Int32) < 0 := by decide
  have n0 : ¬ (0 : Int32) < 0 := by decide
  have m8 : (-8 : Int32) < 0 := by decide
  have a24 : (24 : Int32) + -8 = 16 := by decide
  have a16 : (16 : Int32) + -8 = 8 := by decide
  have a8 : (8 : Int32) + -8 = 0 := by decide
  have a0 : (0 : Int32) + -8 = -8 := by decide
  have f : ∀ k, k < 1500 → ¬ (1500 : Int32) ≤ Int32.ofNat k := fun k hk => Int32.not_le.mpr (i32_lt_lit (b := 1500) (by decide) hk)
  have f0 := f m (by omega)
  have f1 := f (m + 1) (by omega)
  have f2 := f (m + 1 + 1) (by omega)
  have f3 := f (m + 1 + 1 + 1) (by omega)
  have b_1 : inb (Int32.ofNat (m)) 1500 = true := inb_nat (by omega) (by decide)
  have n_1 : (Int32.ofNat (m)).toNatClampNeg = m := i32_nat (by omega)
  have b_2 : inb (Int32.ofNat (m + 1)) 1500 = true := inb_nat (by omega) (by decide)
  have n_2 : (Int32.ofNat (m + 1)).toNatClampNeg = m + 1 := i32_nat (by omega)
  have b_3 : inb (Int32.ofNat (m + 1 + 1)) 1500 = true := inb_nat (by omega) (by decide)
  have n_3 : (Int32.ofNat (m + 1 + 1)).toNatClampNeg = m + 1 + 1 := i32_nat (by omega)
  have b_4 : inb (Int32.ofNat (m + 1 + 1 + 1)) 1500 = true := inb_nat (by omega) (by decide)
  have n_4 : (Int32.ofNat (m + 1 + 1 + 1)).toNatClampNeg = m + 1 + 1 + 1 := i32_nat (by omega)
  have s1 : Int32.ofNat (m) + 1 = Int32.ofNat (m + 1) := i32_add (b := 1)
  have s2 : Int32.ofNat (m + 1) + 1 = Int32.ofNat (m + 1 + 1) := i32_add (b := 1)
  have s3 : Int32.ofNat (m + 1 + 1) + 1 = Int32.ofNat (m + 1 + 1 + 1) := i32_add (b := 1)
  have s4 : Int32.ofNat (m + 1 + 1 + 1) + 1 = Int32.ofNat (m + 1 + 1 + 1 + 1) := i32_add (b := 1)
  refine ⟨zu (zu (zu (zu B m (sb8 (byN v 24))) (m + 1) (sb8 (byN v 16))) (m + 1 + 1) (sb8 (byN v 8))) (m + 1 + 1 + 1) (sb8 (byN v 0)), ?_, CBt_s (CBt_s (CBt_s (CBt_s C byN_lt) byN_lt) byN_lt) byN_lt⟩
  rw [dM_of (Nat.le_of_ble_eq_true rfl)]
  simp -implicitDefEqProofs only [D_228_0, k_228_0, D_228_3, k_228_3, D_228_46, k_228_46, R_228, g_bipush, g_istore_n, v_iload_n, g_if_lt, v_aload_n, g_getfield, sv_i, rf_s, g_getfieldS, g_sipush, g_icmp_ge, sv_a, g_iushr, g_i2b, v_bastore, wrB_0, g_dup_i, g_dup_r, g_iconst, g_iadd, g_put_i, v_iinc, g_goto, g_return, entL, getL, setL, kL_i, kL_r, isI_s, isR_s, isJ_s, gV_s, iV_i, cs0, cs1, cs2, cs3, cs4, dn_nil, kd_si, kd_sl, kd_sw, mr_si, mr_sl, mr_sw, ml_si, ml_sw, mi_sl, ba_k, ba_r, kd_sw, mr_sw, k0, r0, kb, ↓if_neg n24, if_neg n24, ↓if_neg n16, if_neg n16, ↓if_neg n8, if_neg n8, ↓if_neg n0, if_neg n0, ↓if_pos m8, if_pos m8, a24, a16, a8, a0, ba_n, ba_e, ↓if_neg f0, if_neg f0, ↓if_neg f1, if_neg f1, ↓if_neg f2, if_neg f2, ↓if_neg f3, if_neg f3, b_1, n_1, b_2, n_2, b_3, n_3, b_4, n_4, s1, s2, s3, s4, byC_24, byC_16, byC_8, byC_0, si_sw (a := 201), ba_p, ba_w]
theorem R_229 : PG.2.1 229 = none := rfl
theorem s_229 (H : MO h) (hm : m + 4 ≤ 1500) (C : CMt B m T) : ∃ B', dM PG 229 [.ref 277, .int v] (h.bm B m) = some (.inl none, h.bm B' (m + 4)) ∧ CMt B' (m + 4) (tx4 T m v) := by
  have n24 : ¬ (24 : Int32) < 0 := by decide
  have n16 : ¬ (16 : Int32) < 0 := by decide
  have n8 : ¬ (8 : Int32) < 0 := by decide
  have n0 : ¬ (0 : Int32) < 0 := by decide
  have m8 : (-8 : Int32) < 0 := by decide
  have a24 : (24 : Int32) + -8 = 16 := by decide
  have a16 : (16 : Int32) + -8 = 8 := by decide
  have a8 : (8 : Int32) + -8 = 0 := by decide
  have a0 : (0 : Int32) + -8 = -8 := by decide
  have b_1 : inb (Int32.ofNat (m)) 1500 = true := inb_nat (by omega) (by decide)
  have n_1 : (Int32.ofNat (m)).toNatClampNeg = m := i32_nat (by omega)
  have b_2 : inb (Int32.ofNat (m + 1)) 1500 = true := inb_nat (by omega) (by decide)
  have n_2 : (Int32.ofNat (m + 1)).toNatClampNeg = m + 1 := i32_nat (by omega)
  have b_3 : inb (Int32.ofNat (m + 1 + 1)) 1500 = true := inb_nat (by omega) (by decide)
  have n_3 : (Int32.ofNat (m + 1 + 1)).toNatClampNeg = m + 1 + 1 := i32_nat (by omega)
  have b_4 : inb (Int32.ofNat (m + 1 + 1 + 1)) 1500 = true := inb_nat (by omega) (by decide)
  have n_4 : (Int32.ofNat (m + 1 + 1 + 1)).toNatClampNeg = m + 1 + 1 + 1 := i32_nat (by omega)
  have s1 : Int32.ofNat (m) + 1 = Int32.ofNat (m + 1) := i32_add (b := 1)
  have s2 : Int32.ofNat (m + 1) + 1 = Int32.ofNat (m + 1 + 1) := i32_add (b := 1)
  have s3 : Int32.ofNat (m + 1 + 1) + 1 = Int32.ofNat (m + 1 + 1 + 1) := i32_add (b := 1)
  have s4 : Int32.ofNat (m + 1 + 1 + 1) + 1 = Int32.ofNat (m + 1 + 1 + 1 + 1) := i32_add (b := 1)
  refine ⟨zu (zu (zu (zu B m (Int32.ofNat (byN v 24))) (m + 1) (Int32.ofNat (byN v 16))) (m + 1 + 1) (Int32.ofNat (byN v 8))) (m + 1 + 1 + 1) (Int32.ofNat (byN v 0)), ?_, CMt_s (CMt_s (CMt_s (CMt_s C byN_lt) byN_lt) byN_lt) byN_lt⟩
  rw [dM_of (Nat.le_of_ble_eq_true rfl)]
  simp -implicitDefEqProofs only [D_229_0, k_229_0, D_229_3, k_229_3, D_229_39, k_229_39, R_229, g_bipush, g_istore_n, v_iload_n, g_if_lt, v_aload_n, g_getfield, sv_a, rf_s, g_getfieldS, sv_i, g_ishr, g_sipush, g_iand, v_iastore, wrI_0, g_dup_i, g_dup_r, g_iconst, g_iadd, g_put_i, v_iinc, g_goto, g_return, entL, getL, setL, kL_i, kL_r, isI_s, isR_s, isJ_s, gV_s, iV_i, cs0, cs1, cs2, cs3, cs4, dn_nil, kd_si, kd_sl, kd_sw, mr_si, mr_sl, mr_sw, ml_si, ml_sw, mi_sl, mk_277 H, mk_278 H, mk_279 H, mk_280 H, mk_281 H, mk_282 H, mk_283 H, mk_284 H, mk_285 H, mk_286 H, mk_287 H, mk_288 H, mk_289 H, mr_1 H, mr_11 H, mr_12 H, mr_13 H, mr_14 H, mr_15 H, mr_16 H, mr_17 H, mr_18 H, mr_19 H, mr_24 H, mr_25 H, bm_k, bm_r, kd_sw, mr_sw, ↓if_neg n24, if_neg n24, ↓if_neg n16, if_neg n16, ↓if_neg n8, if_neg n8, ↓if_neg n0, if_neg n0, ↓if_pos m8, if_pos m8, a24, a16, a8, a0, bm_n, bm_e, b_1, n_1, b_2, n_2, b_3, n_3, b_4, n_4, s1, s2, s3, s4, byM_24, byM_16, byM_8, byM_0, si_sw (a := 278), bm_p, bm_w]
theorem R_130 : PG.2.1 130 = (some .int) := rfl
theorem m_130n (k0 : h.kd 200 = some (.inl 7)) (e : h.mi 200 1 = Int32.ofNat m) (hm : 1480 < m) (hm2 : m ≤ 1500) {a b c d e' : Int32} : dM PG 130 [.ref 200, .int a, .int b, .int c, .int d, .int e'] h = some (.inl (some (.int (-1))), h) := by
  have z : ¬ Int32.ofNat m ≤ 1480 := by
    show ¬ Int32.ofNat m ≤ Int32.ofNat 1480
    rw [i32_le (by omega) (by omega)]; omega
  rw [dM_of (Nat.le_of_ble_eq_true rfl)]
  simp -implicitDefEqProofs only [D_130_0, k_130_0, D_130_12, k_130_12, R_130, v_aload_n, g_getfield, sv_i, rf_s, g_getfieldS, g_sipush, g_icmp_le, g_iconst, g_ireturn, v_iload_n, v_callV2, aft_v, aft_n, v_iload, entL, getL, setL, kL_i, kL_r, isI_s, isR_s, isJ_s, gV_s, iV_i, cs0, cs1, cs2, cs3, cs4, dn_nil, kd_si, kd_sl, kd_sw, mr_si, mr_sl, mr_sw, ml_si, ml_sw, mi_sl, k0, e, ↓if_neg z, if_neg z, retX_int]
theorem s_130 (k0 : h.kd 200 = some (.inl 7)) (r0 : h.mr 200 0 = some 201) (kb : h.kd 201 = some (.inr (.byte, 1500))) (e : h.mi 200 1 = Int32.ofNat m) (hm : m ≤ 1480) (C : CBt (h.mi 201) m T) {a b c d e' : Int32} : ∃ B', dM PG 130 [.ref 200, .int a, .int b, .int c, .int d, .int e'] h = some (.inl (some (.int (Int32.ofNat (m + 20)))), h.ba B' (m + 20)) ∧ CBt B' (m + 20) (tx20 T m a b c d e') := by
  have z : Int32.ofNat m ≤ 1480 := by
    show Int32.ofNat m ≤ Int32.ofNat 1480
    rw [i32_le (by omega) (by omega)]; omega
  obtain ⟨B1, g1, C1⟩ := s_228 (v := a) k0 r0 kb (by omega) C
  obtain ⟨B2, g2, C2⟩ := s_228 (v := b) k0 r0 kb (by omega) C1
  obtain ⟨B3, g3, C3⟩ := s_228 (v := c) k0 r0 kb (by omega) C2
  obtain ⟨B4, g4, C4⟩ := s_228 (v := d) k0 r0 kb (by omega) C3
  obtain ⟨B5, g5, C5⟩ := s_228 (v := e') k0 r0 kb (by omega) C4
  rw [ba_id e] at g1
  refine ⟨B5, ?_, C5⟩
  rw [dM_of (Nat.le_of_ble_eq_true rfl)]
  simp -implicitDefEqProofs only [D_130_0, k_130_0, D_130_12, k_130_12, R_130, v_aload_n, g_getfield, sv_i, rf_s, g_getfieldS, g_sipush, g_icmp_le, g_iconst, g_ireturn, v_iload_n, v_callV2, aft_v, aft_n, v_iload, entL, getL, setL, kL_i, kL_r, isI_s, isR_s, isJ_s, gV_s, iV_i, cs0, cs1, cs2, cs3, cs4, dn_nil, kd_si, kd_sl, kd_sw, mr_si, mr_sl, mr_sw, ml_si, ml_sw, mi_sl, k0, e, ↓if_pos z, if_pos z, g1, g2, g3, g4, g5, ba_k, ba_n, retX_int]
theorem R_131 : PG.2.1 131 = (some .int) := rfl
theorem m_131n (H : MO h) (e : h.mi 277 2 = Int32.ofNat m) (hm : 1480 < m) (hm2 : m ≤ 1500) {a b c d e' : Int32} : dM PG 131 [.ref 277, .int a, .int b, .int c, .int d, .int e'] h = some (.inl (some (.int (-1))), h.si 277 0 0) := by
  have e2 : (h.si 277 0 0).mi 277 2 = Int32.ofNat m := (mi_sk (by decide)).trans e
  have a20 : Int32.ofNat m + 20 = Int32.ofNat (m + 20) := i32_add (b := 20)
  have z : ¬ Int32.ofNat (m + 20) ≤ 1500 := by
    show ¬ Int32.ofNat (m + 20) ≤ Int32.ofNat 1500
    rw [i32_le (by omega) (by omega)]; omega
  rw [dM_of (Nat.le_of_ble_eq_true rfl)]
  simp -implicitDefEqProofs only [D_131_0, k_131_0, D_131_20, k_131_20, R_131, v_aload_n, g_iconst, g_put_i, g_getfield, sv_i, rf_s, g_getfieldS, g_bipush, g_iadd, g_sipush, g_icmp_le, g_ireturn, v_iload_n, v_callV2, aft_v, aft_n, v_iload, entL, getL, setL, kL_i, kL_r, isI_s, isR_s, isJ_s, gV_s, iV_i, cs0, cs1, cs2, cs3, cs4, dn_nil, kd_si, kd_sl, kd_sw, mr_si, mr_sl, mr_sw, ml_si, ml_sw, mi_sl, mk_277 H, mk_278 H, mk_279 H, mk_280 H, mk_281 H, mk_282 H, mk_283 H, mk_284 H, mk_285 H, mk_286 H, mk_287 H, mk_288 H, mk_289 H, mr_1 H, mr_11 H, mr_12 H, mr_13 H, mr_14 H, mr_15 H, mr_16 H, mr_17 H, mr_18 H, mr_19 H, mr_24 H, mr_25 H, kd_si, e2, a20, ↓if_neg z, if_neg z, retX_int]
theorem s_131 (H : MO h) (e : h.mi 277 2 = Int32.ofNat m) (hm : m ≤ 1480) (C : CMt (h.mi 278) m T) {a b c d e' : Int32} : ∃ B', dM PG 131 [.ref 277, .int a, .int b, .int c, .int d, .int e'] h = some (.inl (some (.int (Int32.ofNat (m + 20)))), (h.si 277 0 0).bm B' (m + 20)) ∧ CMt B' (m + 20) (tx20 T m a b c d e') := by
  have e2 : (h.si 277 0 0).mi 277 2 = Int32.ofNat m := (mi_sk (by decide)).trans e
  have a20 : Int32.ofNat m + 20 = Int32.ofNat (m + 20) := i32_add (b := 20)
  have z : Int32.ofNat (m + 20) ≤ 1500 := by
    show Int32.ofNat (m + 20) ≤ Int32.ofNat 1500
    rw [i32_le (by omega) (by omega)]; omega
  have C0 : CMt ((h.si 277 0 0).mi 278) m T := by
    rw [mi_sa (by decide)]; exact C
  have H0 : MO (h.si 277 0 0) := H
  obtain ⟨B1, g1, C1⟩ := s_229 (v := a) H0 (by omega) C0
  obtain ⟨B2, g2, C2⟩ := s_229 (v := b) H0 (by omega) C1
  obtain ⟨B3, g3, C3⟩ := s_229 (v := c) H0 (by omega) C2
  obtain ⟨B4, g4, C4⟩ := s_229 (v := d) H0 (by omega) C3
  obtain ⟨B5, g5, C5⟩ := s_229 (v := e') H0 (by omega) C4
  rw [bm_id e2] at g1
  refine ⟨B5, ?_, C5⟩
  rw [dM_of (Nat.le_of_ble_eq_true rfl)]
  simp -implicitDefEqProofs only [D_131_0, k_131_0, D_131_20, k_131_20, R_131, v_aload_n, g_iconst, g_put_i, g_getfield, sv_i, rf_s, g_getfieldS, g_bipush, g_iadd, g_sipush, g_icmp_le, g_ireturn, v_iload_n, v_callV2, aft_v, aft_n, v_iload, entL, getL, setL, kL_i, kL_r, isI_s, isR_s, isJ_s, gV_s, iV_i, cs0, cs1, cs2, cs3, cs4, dn_nil, kd_si, kd_sl, kd_sw, mr_si, mr_sl, mr_sw, ml_si, ml_sw, mi_sl, mk_277 H, mk_278 H, mk_279 H, mk_280 H, mk_281 H, mk_282 H, mk_283 H, mk_284 H, mk_285 H, mk_286 H, mk_287 H, mk_288 H, mk_289 H, mr_1 H, mr_11 H, mr_12 H, mr_13 H, mr_14 H, mr_15 H, mr_16 H, mr_17 H, mr_18 H, mr_19 H, mr_24 H, mr_25 H, kd_si, e2, a20, ↓if_pos z, if_pos z, g1, g2, g3, g4, g5, bm_k, bm_n, retX_int]
end AP
