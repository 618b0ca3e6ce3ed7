-- ===== the model's parser: report, isIn =====
section MPA
variable {h : Mm} {n : Nat} {T : Nat → Nat} {F : Nat → Int32} {w : Int64} {t : Tok}
theorem R_297 : PG.2.1 297 = none := rfl
theorem m_297e (H : MO h) {x : Int32} (f5 : ¬ F 5 ≤ 0) : dM PG 297 [.ref 277, .int x] (h.mt F w) = some (.inl none, h.mt F w) := by
  rw [dM_of (Nat.le_of_ble_eq_true rfl)]
  simp -implicitDefEqProofs only [D_297_0, k_297_0, D_297_8, k_297_8, R_297, v_aload_n, g_getfield, sv_i, rf_s, g_getfieldS, g_if_le, g_return, v_iload_n, g_put_i, entL, getL, setL, kL_i, kL_r, isI_s, isR_s, isJ_s, gV_s, iV_i, cs0, cs1, cs2, cs3, cs4, dn_nil, kd_si, kd_sl, kd_sw, mr_si, mr_sl, mr_sw, ml_si, ml_sw, mi_sl, mk_277 H, mk_278 H, mk_279 H, mk_280 H, mk_281 H, mk_282 H, mk_283 H, mk_284 H, mk_285 H, mk_286 H, mk_287 H, mk_288 H, mk_289 H, mr_1 H, mr_11 H, mr_12 H, mr_13 H, mr_14 H, mr_15 H, mr_16 H, mr_17 H, mr_18 H, mr_19 H, mr_24 H, mr_25 H, mt_k, mt_f, ↓if_neg f5, if_neg f5]
theorem m_297 (H : MO h) {x : Int32} (f5 : F 5 = 0) : dM PG 297 [.ref 277, .int x] (h.mt F w) = some (.inl none, h.mt (zu (zu F 5 x) 6 (F 8)) w) := by
  have z : (0 : Int32) ≤ 0 := by decide
  have e8 : zu F 5 x 8 = F 8 := zu_o (by decide)
  rw [dM_of (Nat.le_of_ble_eq_true rfl)]
  simp -implicitDefEqProofs only [D_297_0, k_297_0, D_297_8, k_297_8, R_297, v_aload_n, g_getfield, sv_i, rf_s, g_getfieldS, g_if_le, g_return, v_iload_n, g_put_i, entL, getL, setL, kL_i, kL_r, isI_s, isR_s, isJ_s, gV_s, iV_i, cs0, cs1, cs2, cs3, cs4, dn_nil, kd_si, kd_sl, kd_sw, mr_si, mr_sl, mr_sw, ml_si, ml_sw, mi_sl, mk_277 H, mk_278 H, mk_279 H, mk_280 H, mk_281 H, mk_282 H, mk_283 H, mk_284 H, mk_285 H, mk_286 H, mk_287 H, mk_288 H, mk_289 H, mr_1 H, mr_11 H, mr_12 H, mr_13 H, mr_14 H, mr_15 H, mr_16 H, mr_17 H, mr_18 H, mr_19 H, mr_24 H, mr_25 H, mt_k, mt_f, f5, ↓if_pos z, if_pos z, mt_si, e8]
def mtP (T ch : Nat → Nat) (s k i : Nat) : Bool := decide (ch (k + 1 + i) = T (s + i))
def mtK (T ch : Nat → Nat) (t : Tok) (k : Nat) : Bool := decide (rn (mtP T ch t.1 k) (t.2.1 - t.1) 0 = t.2.1 - t.1) && (decide (ch k = 32) && decide (ch (k + 1 + (t.2.1 - t.1)) = 32))
/-- the token stands between blanks in a row of words -/
def isS (T : Nat → Nat) (t : Tok) (m : Nat) (ch : Nat → Nat) : Bool := (fnd (mtK T ch t) (m - (t.2.1 - t.1 + 1)) 0).isSome
theorem mt_str {p q m : Nat} {ch : Nat → Nat} (S : STR h p q m ch) (hp : p < 200) (hq : q < 200) : STR (h.mt F w) p q m ch := by
  obtain ⟨s1, s2, s3, s4, s5⟩ := S
  refine ⟨s1, ?_, s3, s4, fun k hk => ?_⟩
  · rw [mt_o (by omega), s2]
  · rw [mt_o (by omega)]; exact s5 k hk
theorem R_333 : PG.2.1 333 = (some .boolean) := rfl
theorem m_333e (H : MO h) {p : Nat} (f5 : ¬ F 5 ≤ 0) : dM PG 333 [.ref 277, .ref p] (h.mt F w) = some (.inl (some (.int 0)), h.mt F w) := by
  have g5 : 0 < F 5 := Int32.not_le.mp f5
  rw [dM_of (Nat.le_of_ble_eq_true rfl)]
  simp -implicitDefEqProofs only [D_333_0, k_333_0, D_333_15, k_333_15, D_333_17, k_333_17, k_333_29, k_333_44, k_333_81, D_333_113, k_333_113, D_333_119, k_333_119, R_333, v_aload_n, g_getfield, sv_i, rf_s, g_getfieldS, g_if_gt, g_iconst, g_icmp_eq, g_ireturn, g_isub, g_istore_n, v_iload_n, g_iadd, v_callV1, aft_v, aft_n, v_callVS1, g_icmp_ge, g_istore, v_iload, v_callV2, v_callVS2, sv_a, v_iaload, inI_0, g_icmp_ne, v_iinc, g_goto, g_bipush, entL, getL, setL, kL_i, kL_r, isI_s, isR_s, isJ_s, gV_s, iV_i, cs0, cs1, cs2, cs3, cs4, dn_nil, kd_si, kd_sl, kd_sw, mr_si, mr_sl, mr_sw, ml_si, ml_sw, mi_sl, mk_277 H, mk_278 H, mk_279 H, mk_280 H, mk_281 H, mk_282 H, mk_283 H, mk_284 H, mk_285 H, mk_286 H, mk_287 H, mk_288 H, mk_289 H, mr_1 H, mr_11 H, mr_12 H, mr_13 H, mr_14 H, mr_15 H, mr_16 H, mr_17 H, mr_18 H, mr_19 H, mr_24 H, mr_25 H, mt_k, mt_f, ↓if_pos g5, if_pos g5, rX_0]
theorem m_333k (H : MO h) {p : Nat} (f5 : F 5 = 0) (f7 : ¬ F 7 = 2) : dM PG 333 [.ref 277, .ref p] (h.mt F w) = some (.inl (some (.int 0)), h.mt F w) := by
  have z : ¬ (0 : Int32) < 0 := by decide
  rw [dM_of (Nat.le_of_ble_eq_true rfl)]
  simp -implicitDefEqProofs only [D_333_0, k_333_0, D_333_15, k_333_15, D_333_17, k_333_17, k_333_29, k_333_44, k_333_81, D_333_113, k_333_113, D_333_119, k_333_119, R_333, v_aload_n, g_getfield, sv_i, rf_s, g_getfieldS, g_if_gt, g_iconst, g_icmp_eq, g_ireturn, g_isub, g_istore_n, v_iload_n, g_iadd, v_callV1, aft_v, aft_n, v_callVS1, g_icmp_ge, g_istore, v_iload, v_callV2, v_callVS2, sv_a, v_iaload, inI_0, g_icmp_ne, v_iinc, g_goto, g_bipush, entL, getL, setL, kL_i, kL_r, isI_s, isR_s, isJ_s, gV_s, iV_i, cs0, cs1, cs2, cs3, cs4, dn_nil, kd_si, kd_sl, kd_sw, mr_si, mr_sl, mr_sw, ml_si, ml_sw, mi_sl, mk_277 H, mk_278 H, mk_279 H, mk_280 H, mk_281 H, mk_282 H, mk_283 H, mk_284 H, mk_285 H, mk_286 H, mk_287 H, mk_288 H, mk_289 H, mr_1 H, mr_11 H, mr_12 H, mr_13 H, mr_14 H, mr_15 H, mr_16 H, mr_17 H, mr_18 H, mr_19 H, mr_24 H, mr_25 H, mt_k, mt_f, f5, ↓if_neg z, if_neg z, ↓if_neg f7, if_neg f7, rX_0]
theorem l_333 (H : MO h) (B : MTO h n T) {p q m k : Nat} {ch : Nat → Nat} (S : STR h p q m ch) (kp : h.kd p = some (.inl (9 + 1000))) (hp : p < 200) (hq : q < 200) (h1 : t.1 ≤ t.2.1) (h2 : t.2.1 ≤ n) (f8 : F 8 = Int32.ofNat t.1) (hk : k + (t.2.1 - t.1) + 1 < m) : ∀ (d i : Nat) (tl : Lc), i + d = t.2.1 - t.1 → dB PG 333 44 (some (.ref 277) :: some (.ref p) :: some (.int (Int32.ofNat (t.2.1 - t.1))) :: some (.int (Int32.ofNat k)) :: some (.int (Int32.ofNat i)) :: tl) [] (h.mt F w) = dB PG 333 81 (some (.ref 277) :: some (.ref p) :: some (.int (Int32.ofNat (t.2.1 - t.1))) :: some (.int (Int32.ofNat k)) :: some (.int (Int32.ofNat (rn (mtP T ch t.1 k) d i))) :: tl) [] (h.mt F w) := by
  have S' := mt_str (F := F) (w := w) S hp hq
  have hn := B.1
  have hm : m < 1000 := S.2.2.2.1
  intro d
  induction d with
  | zero =>
    intro i tl hi
    have e : Int32.ofNat (t.2.1 - t.1) ≤ Int32.ofNat (i) := by rw [i32_le (by omega) (by omega)]; omega
    rw [D_333_44]
    simp -implicitDefEqProofs only [D_333_0, k_333_0, D_333_15, k_333_15, D_333_17, k_333_17, k_333_29, k_333_44, k_333_81, D_333_113, k_333_113, D_333_119, k_333_119, R_333, v_aload_n, g_getfield, sv_i, rf_s, g_getfieldS, g_if_gt, g_iconst, g_icmp_eq, g_ireturn, g_isub, g_istore_n, v_iload_n, g_iadd, v_callV1, aft_v, aft_n, v_callVS1, g_icmp_ge, g_istore, v_iload, v_callV2, v_callVS2, sv_a, v_iaload, inI_0, g_icmp_ne, v_iinc, g_goto, g_bipush, entL, getL, setL, kL_i, kL_r, isI_s, isR_s, isJ_s, gV_s, iV_i, cs0, cs1, cs2, cs3, cs4, dn_nil, kd_si, kd_sl, kd_sw, mr_si, mr_sl, mr_sw, ml_si, ml_sw, mi_sl, ↓if_pos e, if_pos e]
    rfl
  | succ d ih =>
    intro i tl hi
    have e : ¬ Int32.ofNat (t.2.1 - t.1) ≤ Int32.ofNat (i) := by rw [i32_le (by omega) (by omega)]; omega
    have s1 : Int32.ofNat (i) + 1 = Int32.ofNat (i + 1) := i32_add (b := 1)
    have s2 : Int32.ofNat (k) + 1 = Int32.ofNat (k + 1) := i32_add (b := 1)
    have a1 : Int32.ofNat (k + 1) + Int32.ofNat i = Int32.ofNat (k + 1 + i) := i32_add
    have a2 : Int32.ofNat t.1 + Int32.ofNat i = Int32.ofNat (t.1 + i) := i32_add
    have g := m_245 S' (k := k + 1 + i) (by omega)
    obtain ⟨t1, t2⟩ := B.2 (t.1 + i) (by omega)
    obtain ⟨c1, -⟩ := S.2.2.2.2 (k + 1 + i) (by omega)
    have b_1 : inb (Int32.ofNat (t.1 + i)) 1500 = true := inb_nat (by omega) (by decide)
    have n_1 : (Int32.ofNat (t.1 + i)).toNatClampNeg = t.1 + i := i32_nat (by omega)
    have r1 : rn (mtP T ch t.1 k) (d + 1) i = if mtP T ch t.1 k i = true then rn (mtP T ch t.1 k) d (i + 1) else i := rfl
    rw [r1]
    by_cases c : ch (k + 1 + i) = T (t.1 + i)
    · have c2 : Int32.ofNat (ch (k + 1 + i)) = Int32.ofNat (T (t.1 + i)) := by rw [c]
      have c3 : mtP T ch t.1 k i = true := decide_eq_true c
      rw [if_pos c3, ← ih (i + 1) tl (by omega), D_333_44]
      simp -implicitDefEqProofs only [D_333_0, k_333_0, D_333_15, k_333_15, D_333_17, k_333_17, k_333_29, k_333_44, k_333_81, D_333_113, k_333_113, D_333_119, k_333_119, R_333, v_aload_n, g_getfield, sv_i, rf_s, g_getfieldS, g_if_gt, g_iconst, g_icmp_eq, g_ireturn, g_isub, g_istore_n, v_iload_n, g_iadd, v_callV1, aft_v, aft_n, v_callVS1, g_icmp_ge, g_istore, v_iload, v_callV2, v_callVS2, sv_a, v_iaload, inI_0, g_icmp_ne, v_iinc, g_goto, g_bipush, entL, getL, setL, kL_i, kL_r, isI_s, isR_s, isJ_s, gV_s, iV_i, cs0, cs1, cs2, cs3, cs4, dn_nil, kd_si, kd_sl, kd_sw, mr_si, mr_sl, mr_sw, ml_si, ml_sw, mi_sl, mk_277 H, mk_278 H, mk_279 H, mk_280 H, mk_281 H, mk_282 H, mk_283 H, mk_284 H, mk_285 H, mk_286 H, mk_287 H, mk_288 H, mk_289 H, mr_1 H, mr_11 H, mr_12 H, mr_13 H, mr_14 H, mr_15 H, mr_16 H, mr_17 H, mr_18 H, mr_19 H, mr_24 H, mr_25 H, mt_k, mt_r, mt_f, kp, mt_o n278, f8, ↓if_neg e, if_neg e, s2, a1, a2, g, b_1, n_1, t2, ↓if_pos c2, if_pos c2, s1]
    · have c2 : ¬ Int32.ofNat (ch (k + 1 + i)) = Int32.ofNat (T (t.1 + i)) := i32_ne (by omega) (by omega) c
      have c3 : mtP T ch t.1 k i = false := decide_eq_false c
      rw [if_neg (by rw [c3]; exact Bool.false_ne_true), D_333_44]
      simp -implicitDefEqProofs only [D_333_0, k_333_0, D_333_15, k_333_15, D_333_17, k_333_17, k_333_29, k_333_44, k_333_81, D_333_113, k_333_113, D_333_119, k_333_119, R_333, v_aload_n, g_getfield, sv_i, rf_s, g_getfieldS, g_if_gt, g_iconst, g_icmp_eq, g_ireturn, g_isub, g_istore_n, v_iload_n, g_iadd, v_callV1, aft_v, aft_n, v_callVS1, g_icmp_ge, g_istore, v_iload, v_callV2, v_callVS2, sv_a, v_iaload, inI_0, g_icmp_ne, v_iinc, g_goto, g_bipush, entL, getL, setL, kL_i, kL_r, isI_s, isR_s, isJ_s, gV_s, iV_i, cs0, cs1, cs2, cs3, cs4, dn_nil, kd_si, kd_sl, kd_sw, mr_si, mr_sl, mr_sw, ml_si, ml_sw, mi_sl, mk_277 H, mk_278 H, mk_279 H, mk_280 H, mk_281 H, mk_282 H, mk_283 H, mk_284 H, mk_285 H, mk_286 H, mk_287 H, mk_288 H, mk_289 H, mr_1 H, mr_11 H, mr_12 H, mr_13 H, mr_14 H, mr_15 H, mr_16 H, mr_17 H, mr_18 H, mr_19 H, mr_24 H, mr_25 H, mt_k, mt_r, mt_f, kp, mt_o n278, f8, ↓if_neg e, if_neg e, s2, a1, a2, g, b_1, n_1, t2, ↓if_neg c2, if_neg c2]
theorem m_333 (H : MO h) (B : MTO h n T) {p q m : Nat} {ch : Nat → Nat} (S : STR h p q m ch) (kp : h.kd p = some (.inl (9 + 1000))) (hp : p < 200) (hq : q < 200) (h1 : t.1 ≤ t.2.1) (h2 : t.2.1 ≤ n) (f4 : F 4 = Int32.ofNat t.2.1) (f8 : F 8 = Int32.ofNat t.1) (f5 : F 5 = 0) (f7 : F 7 = 2) : dM PG 333 [.ref 277, .ref p] (h.mt F w) = some (.inl (some (.int (b2i (isS T t m ch)))), h.mt F w) := by
  have z : ¬ (0 : Int32) < 0 := by decide
  have sub1 : Int32.ofNat t.2.1 - Int32.ofNat t.1 = Int32.ofNat (t.2.1 - t.1) := i32_sub h1
  have S' := mt_str (F := F) (w := w) S hp hq
  have hn := B.1
  have hm : m < 1000 := S.2.2.2.1
  have z0 : (0 : Int32) = Int32.ofNat 0 := rfl
  rw [dM_of (Nat.le_of_ble_eq_true rfl)]
  simp -implicitDefEqProofs only [D_333_0, k_333_0, D_333_15, k_333_15, D_333_17, k_333_17, k_333_29, k_333_44, k_333_81, D_333_113, k_333_113, D_333_119, k_333_119, R_333, v_aload_n, g_getfield, sv_i, rf_s, g_getfieldS, g_if_gt, g_iconst, g_icmp_eq, g_ireturn, g_isub, g_istore_n, v_iload_n, g_iadd, v_callV1, aft_v, aft_n, v_callVS1, g_icmp_ge, g_istore, v_iload, v_callV2, v_callVS2, sv_a, v_iaload, inI_0, g_icmp_ne, v_iinc, g_goto, g_bipush, entL, getL, setL, kL_i, kL_r, isI_s, isR_s, isJ_s, gV_s, iV_i, cs0, cs1, cs2, cs3, cs4, dn_nil, kd_si, kd_sl, kd_sw, mr_si, mr_sl, mr_sw, ml_si, ml_sw, mi_sl, mk_277 H, mk_278 H, mk_279 H, mk_280 H, mk_281 H, mk_282 H, mk_283 H, mk_284 H, mk_285 H, mk_286 H, mk_287 H, mk_288 H, mk_289 H, mr_1 H, mr_11 H, mr_12 H, mr_13 H, mr_14 H, mr_15 H, mr_16 H, mr_17 H, mr_18 H, mr_19 H, mr_24 H, mr_25 H, mt_k, mt_f, f5, f4, f7, f8, ↓if_neg z, if_neg z, ↓if_true, if_true, sub1]
  have g := lf (P := PG) (y := 333) (pc := 29) (n := m - (t.2.1 - t.1 + 1)) (p := mtK T ch t) (h := h.mt F w) (L := fun i tl => some (.ref 277) :: some (.ref p) :: some (.int (Int32.ofNat (t.2.1 - t.1))) :: some (.int (Int32.ofNat i)) :: tl) (r := fun o => some (.inl (some (.int (b2i o.isSome))), h.mt F w)) (by
    intro k tl hk ck
    refine ⟨some (.int (Int32.ofNat (rn (mtP T ch t.1 k) (t.2.1 - t.1) 0))) :: tl.tail, ?_⟩
    have a1 : Int32.ofNat k + Int32.ofNat (t.2.1 - t.1) = Int32.ofNat (k + (t.2.1 - t.1)) := i32_add
    have s1 : Int32.ofNat (k + (t.2.1 - t.1)) + 1 = Int32.ofNat (k + (t.2.1 - t.1) + 1) := i32_add (b := 1)
    have s2 : Int32.ofNat (k) + 1 = Int32.ofNat (k + 1) := i32_add (b := 1)
    have e : ¬ Int32.ofNat (m) ≤ Int32.ofNat (k + (t.2.1 - t.1) + 1) := by rw [i32_le (by omega) (by omega)]; omega
    have g0 := m_244 S'
    have gl := l_333 (w := w) H B S kp hp hq h1 h2 f8 (k := k) (by omega) (t.2.1 - t.1) 0 tl.tail (by omega)
    have e1 : dB PG 333 29 (some (.ref 277) :: some (.ref p) :: some (.int (Int32.ofNat (t.2.1 - t.1))) :: some (.int (Int32.ofNat k)) :: tl) [] (h.mt F w) = dB PG 333 44 (some (.ref 277) :: some (.ref p) :: some (.int (Int32.ofNat (t.2.1 - t.1))) :: some (.int (Int32.ofNat k)) :: some (.int (Int32.ofNat 0)) :: tl.tail) [] (h.mt F w) := by
      rw [D_333_29]
      simp -implicitDefEqProofs only [D_333_0, k_333_0, D_333_15, k_333_15, D_333_17, k_333_17, k_333_29, k_333_44, k_333_81, D_333_113, k_333_113, D_333_119, k_333_119, R_333, v_aload_n, g_getfield, sv_i, rf_s, g_getfieldS, g_if_gt, g_iconst, g_icmp_eq, g_ireturn, g_isub, g_istore_n, v_iload_n, g_iadd, v_callV1, aft_v, aft_n, v_callVS1, g_icmp_ge, g_istore, v_iload, v_callV2, v_callVS2, sv_a, v_iaload, inI_0, g_icmp_ne, v_iinc, g_goto, g_bipush, entL, getL, setL, kL_i, kL_r, isI_s, isR_s, isJ_s, gV_s, iV_i, cs0, cs1, cs2, cs3, cs4, dn_nil, kd_si, kd_sl, kd_sw, mr_si, mr_sl, mr_sw, ml_si, ml_sw, mi_sl, mt_k, kp, a1, s1, g0, ↓if_neg e, if_neg e, setL_0]
      rfl
    rw [e1, gl, D_333_81]
    have rle := (rn_le (q := mtP T ch t.1 k) (t.2.1 - t.1) 0).2
    generalize hr : rn (mtP T ch t.1 k) (t.2.1 - t.1) 0 = r at rle
    by_cases c1 : r = t.2.1 - t.1
    · have d1 : Int32.ofNat r = Int32.ofNat (t.2.1 - t.1) := by rw [c1]
      have g1 := m_245 S' (k := k) (by omega)
      have b1 := (S.2.2.2.2 k (by omega)).1
      have b2 := (S.2.2.2.2 (k + 1 + (t.2.1 - t.1)) (by omega)).1
      have a3 : Int32.ofNat (k + 1) + Int32.ofNat (t.2.1 - t.1) = Int32.ofNat (k + 1 + (t.2.1 - t.1)) := i32_add
      by_cases c2 : ch k = 32
      · have d2 : Int32.ofNat (ch k) = 32 := by rw [c2]; rfl
        have g2 := m_245 S' (k := k + 1 + (t.2.1 - t.1)) (by omega)
        have c3 : ¬ ch (k + 1 + (t.2.1 - t.1)) = 32 := fun q => by
          unfold mtK at ck
          rw [hr, decide_eq_true c1, decide_eq_true c2, decide_eq_true q] at ck
          cases ck
        have d3 : ¬ Int32.ofNat (ch (k + 1 + (t.2.1 - t.1))) = 32 := by
          show ¬ Int32.ofNat (ch (k + 1 + (t.2.1 - t.1))) = Int32.ofNat 32
          exact i32_ne (by omega) (by omega) c3
        simp -implicitDefEqProofs only [D_333_0, k_333_0, D_333_15, k_333_15, D_333_17, k_333_17, k_333_29, k_333_44, k_333_81, D_333_113, k_333_113, D_333_119, k_333_119, R_333, v_aload_n, g_getfield, sv_i, rf_s, g_getfieldS, g_if_gt, g_iconst, g_icmp_eq, g_ireturn, g_isub, g_istore_n, v_iload_n, g_iadd, v_callV1, aft_v, aft_n, v_callVS1, g_icmp_ge, g_istore, v_iload, v_callV2, v_callVS2, sv_a, v_iaload, inI_0, g_icmp_ne, v_iinc, g_goto, g_bipush, entL, getL, setL, kL_i, kL_r, isI_s, isR_s, isJ_s, gV_s, iV_i, cs0, cs1, cs2, cs3, cs4, dn_nil, kd_si, kd_sl, kd_sw, mr_si, mr_sl, mr_sw, ml_si, ml_sw, mi_sl, mt_k, kp, ↓if_pos d1, if_pos d1, g1, ↓if_pos d2, if_pos d2, s2, a3, g2, ↓if_neg d3, if_neg d3]
      · have d2 : ¬ Int32.ofNat (ch k) = 32 := by
          show ¬ Int32.ofNat (ch k) = Int32.ofNat 32
          exact i32_ne (by omega) (by omega) c2
        simp -implicitDefEqProofs only [D_333_0, k_333_0, D_333_15, k_333_15, D_333_17, k_333_17, k_333_29, k_333_44, k_333_81, D_333_113, k_333_113, D_333_119, k_333_119, R_333, v_aload_n, g_getfield, sv_i, rf_s, g_getfieldS, g_if_gt, g_iconst, g_icmp_eq, g_ireturn, g_isub, g_istore_n, v_iload_n, g_iadd, v_callV1, aft_v, aft_n, v_callVS1, g_icmp_ge, g_istore, v_iload, v_callV2, v_callVS2, sv_a, v_iaload, inI_0, g_icmp_ne, v_iinc, g_goto, g_bipush, entL, getL, setL, kL_i, kL_r, isI_s, isR_s, isJ_s, gV_s, iV_i, cs0, cs1, cs2, cs3, cs4, dn_nil, kd_si, kd_sl, kd_sw, mr_si, mr_sl, mr_sw, ml_si, ml_sw, mi_sl, mt_k, kp, ↓if_pos d1, if_pos d1, g1, ↓if_neg d2, if_neg d2, s2]
    · have d1 : ¬ Int32.ofNat r = Int32.ofNat (t.2.1 - t.1) := i32_ne (by omega) (by omega) c1
      simp -implicitDefEqProofs only [D_333_0, k_333_0, D_333_15, k_333_15, D_333_17, k_333_17, k_333_29, k_333_44, k_333_81, D_333_113, k_333_113, D_333_119, k_333_119, R_333, v_aload_n, g_getfield, sv_i, rf_s, g_getfieldS, g_if_gt, g_iconst, g_icmp_eq, g_ireturn, g_isub, g_istore_n, v_iload_n, g_iadd, v_callV1, aft_v, aft_n, v_callVS1, g_icmp_ge, g_istore, v_iload, v_callV2, v_callVS2, sv_a, v_iaload, inI_0, g_icmp_ne, v_iinc, g_goto, g_bipush, entL, getL, setL, kL_i, kL_r, isI_s, isR_s, isJ_s, gV_s, iV_i, cs0, cs1, cs2, cs3, cs4, dn_nil, kd_si, kd_sl, kd_sw, mr_si, mr_sl, mr_sw, ml_si, ml_sw, mi_sl, ↓if_neg d1, if_neg d1, s2]) (by
    intro k tl hk ck
    have a1 : Int32.ofNat k + Int32.ofNat (t.2.1 - t.1) = Int32.ofNat (k + (t.2.1 - t.1)) := i32_add
    have s1 : Int32.ofNat (k + (t.2.1 - t.1)) + 1 = Int32.ofNat (k + (t.2.1 - t.1) + 1) := i32_add (b := 1)
    have s2 : Int32.ofNat (k) + 1 = Int32.ofNat (k + 1) := i32_add (b := 1)
    have e : ¬ Int32.ofNat (m) ≤ Int32.ofNat (k + (t.2.1 - t.1) + 1) := by rw [i32_le (by omega) (by omega)]; omega
    have g0 := m_244 S'
    have gl := l_333 (w := w) H B S kp hp hq h1 h2 f8 (k := k) (by omega) (t.2.1 - t.1) 0 tl.tail (by omega)
    have e1 : dB PG 333 29 (some (.ref 277) :: some (.ref p) :: some (.int (Int32.ofNat (t.2.1 - t.1))) :: some (.int (Int32.ofNat k)) :: tl) [] (h.mt F w) = dB PG 333 44 (some (.ref 277) :: some (.ref p) :: some (.int (Int32.ofNat (t.2.1 - t.1))) :: some (.int (Int32.ofNat k)) :: some (.int (Int32.ofNat 0)) :: tl.tail) [] (h.mt F w) := by
      rw [D_333_29]
      simp -implicitDefEqProofs only [D_333_0, k_333_0, D_333_15, k_333_15, D_333_17, k_333_17, k_333_29, k_333_44, k_333_81, D_333_113, k_333_113, D_333_119, k_333_119, R_333, v_aload_n, g_getfield, sv_i, rf_s, g_getfieldS, g_if_gt, g_iconst, g_icmp_eq, g_ireturn, g_isub, g_istore_n, v_iload_n, g_iadd, v_callV1, aft_v, aft_n, v_callVS1, g_icmp_ge, g_istore, v_iload, v_callV2, v_callVS2, sv_a, v_iaload, inI_0, g_icmp_ne, v_iinc, g_goto, g_bipush, entL, getL, setL, kL_i, kL_r, isI_s, isR_s, isJ_s, gV_s, iV_i, cs0, cs1, cs2, cs3, cs4, dn_nil, kd_si, kd_sl, kd_sw, mr_si, mr_sl, mr_sw, ml_si, ml_sw, mi_sl, mt_k, kp, a1, s1, g0, ↓if_neg e, if_neg e, setL_0]
      rfl
    rw [e1, gl, D_333_81]
    have g1 := m_245 S' (k := k) (by omega)
    have g2 := m_245 S' (k := k + 1 + (t.2.1 - t.1)) (by omega)
    have a3 : Int32.ofNat (k + 1) + Int32.ofNat (t.2.1 - t.1) = Int32.ofNat (k + 1 + (t.2.1 - t.1)) := i32_add
    unfold mtK at ck
    rw [Bool.and_eq_true, Bool.and_eq_true] at ck
    have c1 := of_decide_eq_true ck.1
    have d2 : Int32.ofNat (ch k) = 32 := by rw [of_decide_eq_true ck.2.1]; rfl
    have d3 : Int32.ofNat (ch (k + 1 + (t.2.1 - t.1))) = 32 := by rw [of_decide_eq_true ck.2.2]; rfl
    rw [c1]
    simp -implicitDefEqProofs only [D_333_0, k_333_0, D_333_15, k_333_15, D_333_17, k_333_17, k_333_29, k_333_44, k_333_81, D_333_113, k_333_113, D_333_119, k_333_119, R_333, v_aload_n, g_getfield, sv_i, rf_s, g_getfieldS, g_if_gt, g_iconst, g_icmp_eq, g_ireturn, g_isub, g_istore_n, v_iload_n, g_iadd, v_callV1, aft_v, aft_n, v_callVS1, g_icmp_ge, g_istore, v_iload, v_callV2, v_callVS2, sv_a, v_iaload, inI_0, g_icmp_ne, v_iinc, g_goto, g_bipush, entL, getL, setL, kL_i, kL_r, isI_s, isR_s, isJ_s, gV_s, iV_i, cs0, cs1, cs2, cs3, cs4, dn_nil, kd_si, kd_sl, kd_sw, mr_si, mr_sl, mr_sw, ml_si, ml_sw, mi_sl, mt_k, kp, ↓if_true, if_true, g1, ↓if_pos d2, if_pos d2, s2, a3, g2, ↓if_pos d3, if_pos d3, rX_1]
    rfl) (by
    intro tl
    have a1 : Int32.ofNat (m - (t.2.1 - t.1 + 1)) + Int32.ofNat (t.2.1 - t.1) = Int32.ofNat (m - (t.2.1 - t.1 + 1) + (t.2.1 - t.1)) := i32_add
    have s1 : Int32.ofNat (m - (t.2.1 - t.1 + 1) + (t.2.1 - t.1)) + 1 = Int32.ofNat (m - (t.2.1 - t.1 + 1) + (t.2.1 - t.1) + 1) := i32_add (b := 1)
    have e : Int32.ofNat (m) ≤ Int32.ofNat (m - (t.2.1 - t.1 + 1) + (t.2.1 - t.1) + 1) := by rw [i32_le (by omega) (by omega)]; omega
    have g0 := m_244 S'
    rw [D_333_29]
    simp -implicitDefEqProofs only [D_333_0, k_333_0, D_333_15, k_333_15, D_333_17, k_333_17, k_333_29, k_333_44, k_333_81, D_333_113, k_333_113, D_333_119, k_333_119, R_333, v_aload_n, g_getfield, sv_i, rf_s, g_getfieldS, g_if_gt, g_iconst, g_icmp_eq, g_ireturn, g_isub, g_istore_n, v_iload_n, g_iadd, v_callV1, aft_v, aft_n, v_callVS1, g_icmp_ge, g_istore, v_iload, v_callV2, v_callVS2, sv_a, v_iaload, inI_0, g_icmp_ne, v_iinc, g_goto, g_bipush, entL, getL, setL, kL_i, kL_r, isI_s, isR_s, isJ_s, gV_s, iV_i, cs0, cs1, cs2, cs3, cs4, dn_nil, kd_si, kd_sl, kd_sw, mr_si, mr_sl, mr_sw, ml_si, ml_sw, mi_sl, mt_k, kp, a1, s1, g0, ↓if_pos e, if_pos e, rX_0]
    rfl) (m - (t.2.1 - t.1 + 1)) 0 [] (by omega)
  exact g
end MPA
