-- ===== the model: questions that count =====
theorem li {A : Type} {P : Pg} {y pc n : Nat} {L : Nat → A → Lc → Lc} {h : Mm} {f : Nat → A → A}
    (hs : ∀ i a tl, i < n → ∃ tl', dB P y pc (L i a tl) [] h = dB P y pc (L (i + 1) (f i a) tl') [] h) : ∀ (d i : Nat) (a : A) (tl : Lc), i + d = n → ∃ tl', dB P y pc (L i a tl) [] h = dB P y pc (L n (fl f d i a) tl') [] h := by
  intro d
  induction d with
  | zero =>
    intro i a tl hi
    obtain rfl : i = n := by omega
    exact ⟨tl, rfl⟩
  | succ d ih =>
    intro i a tl hi
    obtain ⟨tl', e⟩ := hs i a tl (by omega)
    obtain ⟨tl2, e2⟩ := ih (i + 1) (f i a) tl' (by omega)
    exact ⟨tl2, e.trans e2⟩
theorem R_103 : PG.2.1 103 = (some .int) := rfl
theorem m_103n {k p : Int32} {h : Mm} (H : MO h) (hl : h.mi 277 21 = 0) {t : Int32} (g : dM PG 166 [.ref 277, .int k, .int p] h = some (.inl (some (.int t)), h)) : dM PG 103 [.ref 277, .int k, .int p] h = some (.inl (some (.int 0)), h.si 277 0 1) := by
  rw [dM_of (Nat.le_of_ble_eq_true rfl)]
  simp -implicitDefEqProofs only [D_103_0, k_103_0, R_103, v_aload_n, v_iload_n, v_callV3, aft_v, aft_n, v_callV2, g_if_ne, g_iconst, g_ireturn, entL, getL, setL, kL_i, kL_r, isI_s, isR_s, isJ_s, gV_s, iV_i, cs0, cs1, cs2, cs3, cs4, dn_nil, kd_si, kd_sl, kd_sw, mr_si, mr_sl, mr_sw, ml_si, ml_sw, mi_sl, mk_277 H, mk_278 H, mk_279 H, mk_280 H, mk_281 H, mk_282 H, mk_283 H, mk_284 H, mk_285 H, mk_286 H, mk_287 H, mk_288 H, mk_289 H, mr_1 H, mr_11 H, mr_12 H, mr_13 H, mr_14 H, mr_15 H, mr_16 H, mr_17 H, mr_18 H, mr_19 H, mr_24 H, mr_25 H, g, m_138n H hl, ↓if_true, if_true, retX_int]
theorem m_103x {k p : Int32} {h : Mm} (H : MO h) (hl : ¬ h.mi 277 21 = 0) (g : dM PG 166 [.ref 277, .int k, .int p] h = some (.inl (some (.int 0)), h)) : dM PG 103 [.ref 277, .int k, .int p] h = some (.inl (some (.int 0)), h.si 277 0 2) := by
  rw [dM_of (Nat.le_of_ble_eq_true rfl)]
  simp -implicitDefEqProofs only [D_103_0, k_103_0, R_103, v_aload_n, v_iload_n, v_callV3, aft_v, aft_n, v_callV2, g_if_ne, g_iconst, g_ireturn, entL, getL, setL, kL_i, kL_r, isI_s, isR_s, isJ_s, gV_s, iV_i, cs0, cs1, cs2, cs3, cs4, dn_nil, kd_si, kd_sl, kd_sw, mr_si, mr_sl, mr_sw, ml_si, ml_sw, mi_sl, mk_277 H, mk_278 H, mk_279 H, mk_280 H, mk_281 H, mk_282 H, mk_283 H, mk_284 H, mk_285 H, mk_286 H, mk_287 H, mk_288 H, mk_289 H, mr_1 H, mr_11 H, mr_12 H, mr_13 H, mr_14 H, mr_15 H, mr_16 H, mr_17 H, mr_18 H, mr_19 H, mr_24 H, mr_25 H, g, m_138x H hl, ↓if_true, if_true, retX_int]
def moB (S : Nat → Int32) (i : Nat) (k p : Int32) : Bool := decide (S (48 + i) = 4 ∧ S (288 + i) = k ∧ S (128 + i) = p)
theorem m_103y {k p : Int32} {m : Nat} (hm : m ≤ 80) {h : Mm} (H : MO h) (hl : ¬ h.mi 277 21 = 0) (h9 : h.mi 283 9 = Int32.ofNat m) (g : dM PG 166 [.ref 277, .int k, .int p] h = some (.inl (some (.int 1)), h)) : dM PG 103 [.ref 277, .int k, .int p] h = some (.inl (some (.int (fl (fun i a => a + b2i (moB (h.mi 283) i k p)) m 0 0))), h.si 277 0 0) := by
  rw [dM_of (Nat.le_of_ble_eq_true rfl)]
  simp -implicitDefEqProofs only [D_103_0, k_103_0, D_103_15, k_103_15, R_103, v_aload_n, v_iload_n, v_callV3, aft_v, aft_n, v_callV2, g_if_ne, g_iconst, g_ireturn, g_istore_n, g_istore, entL, getL, setL, kL_i, kL_r, isI_s, isR_s, isJ_s, gV_s, iV_i, cs0, cs1, cs2, cs3, cs4, dn_nil, kd_si, kd_sl, kd_sw, mr_si, mr_sl, mr_sw, ml_si, ml_sw, mi_sl, mk_277 H, mk_278 H, mk_279 H, mk_280 H, mk_281 H, mk_282 H, mk_283 H, mk_284 H, mk_285 H, mk_286 H, mk_287 H, mk_288 H, mk_289 H, mr_1 H, mr_11 H, mr_12 H, mr_13 H, mr_14 H, mr_15 H, mr_16 H, mr_17 H, mr_18 H, mr_19 H, mr_24 H, mr_25 H, g, m_138y H hl, ↓if_neg z_1, if_neg z_1]
  refine lq (n := m) (f := fun i a => a + b2i (moB (h.mi 283) i k p)) (L := fun i a tl => some (.ref 277) :: some (.int k) :: some (.int p) :: some (.int a) :: some (.int (Int32.ofNat i)) :: tl) (r := fun a => some (.inl (some (.int a)), h.si 277 0 0)) ?_ ?_ m 0 0 [] (by omega)
  · intro i a tl hi
    refine ⟨tl, ?_⟩
    have e : ¬ Int32.ofNat (m) ≤ Int32.ofNat (i) := by rw [i32_le (by omega) (by omega)]; omega
    have s1 : Int32.ofNat (i) + 1 = Int32.ofNat (i + 1) := i32_add (b := 1)
    have b_1 : inb (Int32.ofNat (48 + i)) 1168 = true := inb_nat (by omega) (by decide)
    have n_1 : (Int32.ofNat (48 + i)).toNatClampNeg = 48 + i := i32_nat (by omega)
    have b_2 : inb (Int32.ofNat (288 + i)) 1168 = true := inb_nat (by omega) (by decide)
    have n_2 : (Int32.ofNat (288 + i)).toNatClampNeg = 288 + i := i32_nat (by omega)
    have b_3 : inb (Int32.ofNat (128 + i)) 1168 = true := inb_nat (by omega) (by decide)
    have n_3 : (Int32.ofNat (128 + i)).toNatClampNeg = 128 + i := i32_nat (by omega)
    rw [D_103_20]
    by_cases c1 : h.mi 283 (48 + i) = 4
    · by_cases c2 : h.mi 283 (288 + i) = k
      · by_cases c3 : h.mi 283 (128 + i) = p
        · have z : b2i (moB (h.mi 283) i k p) = 1 := by unfold moB; rw [decide_eq_true ⟨c1, c2, c3⟩]; rfl
          simp -implicitDefEqProofs only [D_103_0, k_103_0, D_103_15, k_103_15, k_103_20, D_103_81, k_103_81, D_103_82, k_103_82, D_103_90, k_103_90, R_103, v_aload_n, v_iload_n, v_callV3, aft_v, aft_n, v_callV2, g_if_ne, g_iconst, g_ireturn, g_istore_n, g_istore, v_iload, g_getfield, sv_a, rf_s, g_bipush, v_iaload, inI_0, g_icmp_ge, g_iadd, g_icmp_ne, g_sipush, g_goto, v_iinc, entL, getL, setL, kL_i, kL_r, isI_s, isR_s, isJ_s, gV_s, iV_i, cs0, cs1, cs2, cs3, cs4, dn_nil, kd_si, kd_sl, kd_sw, mr_si, mr_sl, mr_sw, ml_si, ml_sw, mi_sl, mk_277 H, mk_278 H, mk_279 H, mk_280 H, mk_281 H, mk_282 H, mk_283 H, mk_284 H, mk_285 H, mk_286 H, mk_287 H, mk_288 H, mk_289 H, mr_1 H, mr_11 H, mr_12 H, mr_13 H, mr_14 H, mr_15 H, mr_16 H, mr_17 H, mr_18 H, mr_19 H, mr_24 H, mr_25 H, mi_sa k283, in_9, ix_9, h9, ↓if_neg e, if_neg e, la_48, la_288, la_128, b_1, n_1, b_2, n_2, b_3, n_3, ↓if_pos c1, if_pos c1, ↓if_pos c2, if_pos c2, ↓if_pos c3, if_pos c3, z, s1]
        · have z : b2i (moB (h.mi 283) i k p) = 0 := by unfold moB; rw [decide_eq_false (fun q => c3 q.2.2)]; rfl
          simp -implicitDefEqProofs only [D_103_0, k_103_0, D_103_15, k_103_15, k_103_20, D_103_81, k_103_81, D_103_82, k_103_82, D_103_90, k_103_90, R_103, v_aload_n, v_iload_n, v_callV3, aft_v, aft_n, v_callV2, g_if_ne, g_iconst, g_ireturn, g_istore_n, g_istore, v_iload, g_getfield, sv_a, rf_s, g_bipush, v_iaload, inI_0, g_icmp_ge, g_iadd, g_icmp_ne, g_sipush, g_goto, v_iinc, entL, getL, setL, kL_i, kL_r, isI_s, isR_s, isJ_s, gV_s, iV_i, cs0, cs1, cs2, cs3, cs4, dn_nil, kd_si, kd_sl, kd_sw, mr_si, mr_sl, mr_sw, ml_si, ml_sw, mi_sl, mk_277 H, mk_278 H, mk_279 H, mk_280 H, mk_281 H, mk_282 H, mk_283 H, mk_284 H, mk_285 H, mk_286 H, mk_287 H, mk_288 H, mk_289 H, mr_1 H, mr_11 H, mr_12 H, mr_13 H, mr_14 H, mr_15 H, mr_16 H, mr_17 H, mr_18 H, mr_19 H, mr_24 H, mr_25 H, mi_sa k283, in_9, ix_9, h9, ↓if_neg e, if_neg e, la_48, la_288, la_128, b_1, n_1, b_2, n_2, b_3, n_3, ↓if_pos c1, if_pos c1, ↓if_pos c2, if_pos c2, ↓if_neg c3, if_neg c3, z, s1]
      · have z : b2i (moB (h.mi 283) i k p) = 0 := by unfold moB; rw [decide_eq_false (fun q => c2 q.2.1)]; rfl
        simp -implicitDefEqProofs only [D_103_0, k_103_0, D_103_15, k_103_15, k_103_20, D_103_81, k_103_81, D_103_82, k_103_82, D_103_90, k_103_90, R_103, v_aload_n, v_iload_n, v_callV3, aft_v, aft_n, v_callV2, g_if_ne, g_iconst, g_ireturn, g_istore_n, g_istore, v_iload, g_getfield, sv_a, rf_s, g_bipush, v_iaload, inI_0, g_icmp_ge, g_iadd, g_icmp_ne, g_sipush, g_goto, v_iinc, entL, getL, setL, kL_i, kL_r, isI_s, isR_s, isJ_s, gV_s, iV_i, cs0, cs1, cs2, cs3, cs4, dn_nil, kd_si, kd_sl, kd_sw, mr_si, mr_sl, mr_sw, ml_si, ml_sw, mi_sl, mk_277 H, mk_278 H, mk_279 H, mk_280 H, mk_281 H, mk_282 H, mk_283 H, mk_284 H, mk_285 H, mk_286 H, mk_287 H, mk_288 H, mk_289 H, mr_1 H, mr_11 H, mr_12 H, mr_13 H, mr_14 H, mr_15 H, mr_16 H, mr_17 H, mr_18 H, mr_19 H, mr_24 H, mr_25 H, mi_sa k283, in_9, ix_9, h9, ↓if_neg e, if_neg e, la_48, la_288, la_128, b_1, n_1, b_2, n_2, b_3, n_3, ↓if_pos c1, if_pos c1, ↓if_neg c2, if_neg c2, z, s1]
    · have z : b2i (moB (h.mi 283) i k p) = 0 := by unfold moB; rw [decide_eq_false (fun q => c1 q.1)]; rfl
      simp -implicitDefEqProofs only [D_103_0, k_103_0, D_103_15, k_103_15, k_103_20, D_103_81, k_103_81, D_103_82, k_103_82, D_103_90, k_103_90, R_103, v_aload_n, v_iload_n, v_callV3, aft_v, aft_n, v_callV2, g_if_ne, g_iconst, g_ireturn, g_istore_n, g_istore, v_iload, g_getfield, sv_a, rf_s, g_bipush, v_iaload, inI_0, g_icmp_ge, g_iadd, g_icmp_ne, g_sipush, g_goto, v_iinc, entL, getL, setL, kL_i, kL_r, isI_s, isR_s, isJ_s, gV_s, iV_i, cs0, cs1, cs2, cs3, cs4, dn_nil, kd_si, kd_sl, kd_sw, mr_si, mr_sl, mr_sw, ml_si, ml_sw, mi_sl, mk_277 H, mk_278 H, mk_279 H, mk_280 H, mk_281 H, mk_282 H, mk_283 H, mk_284 H, mk_285 H, mk_286 H, mk_287 H, mk_288 H, mk_289 H, mr_1 H, mr_11 H, mr_12 H, mr_13 H, mr_14 H, mr_15 H, mr_16 H, mr_17 H, mr_18 H, mr_19 H, mr_24 H, mr_25 H, mi_sa k283, in_9, ix_9, h9, ↓if_neg e, if_neg e, la_48, la_288, la_128, b_1, n_1, b_2, n_2, b_3, n_3, ↓if_neg c1, if_neg c1, z, s1]
  · intro a tl
    have e : Int32.ofNat (m) ≤ Int32.ofNat (m) := by rw [i32_le (by omega) (by omega)]; omega
    rw [D_103_20]
    simp -implicitDefEqProofs only [D_103_0, k_103_0, D_103_15, k_103_15, k_103_20, D_103_81, k_103_81, D_103_82, k_103_82, D_103_90, k_103_90, R_103, v_aload_n, v_iload_n, v_callV3, aft_v, aft_n, v_callV2, g_if_ne, g_iconst, g_ireturn, g_istore_n, g_istore, v_iload, g_getfield, sv_a, rf_s, g_bipush, v_iaload, inI_0, g_icmp_ge, g_iadd, g_icmp_ne, g_sipush, g_goto, v_iinc, entL, getL, setL, kL_i, kL_r, isI_s, isR_s, isJ_s, gV_s, iV_i, cs0, cs1, cs2, cs3, cs4, dn_nil, kd_si, kd_sl, kd_sw, mr_si, mr_sl, mr_sw, ml_si, ml_sw, mi_sl, mk_277 H, mk_278 H, mk_279 H, mk_280 H, mk_281 H, mk_282 H, mk_283 H, mk_284 H, mk_285 H, mk_286 H, mk_287 H, mk_288 H, mk_289 H, mr_1 H, mr_11 H, mr_12 H, mr_13 H, mr_14 H, mr_15 H, mr_16 H, mr_17 H, mr_18 H, mr_19 H, mr_24 H, mr_25 H, mi_sa k283, in_9, ix_9, h9, ↓if_pos e, if_pos e, retX_int]
theorem R_143 : PG.2.1 143 = (some .int) := rfl
def ovS (S : Nat → Int32) (x : Int32) (j : Nat) (a : Int32) : Int32 := a + (if x = -1 ∨ S (688 + j) = x then S (848 + j) else 0)
theorem m_143 {s n q : Nat} (hn : n ≤ 80) (hq : q ≤ n) {x : Int32} {h : Mm} (hk : h.kd s = some (.inr (.int, 1168))) (h8 : h.mi s 8 = Int32.ofNat n) : dM PG 143 [.ref s, .int (Int32.ofNat q), .int x] h = some (.inl (some (.int (fl (ovS (h.mi s) x) (n - q) q 0))), h) := by
  rw [dM_of (Nat.le_of_ble_eq_true rfl)]
  simp -implicitDefEqProofs only [D_143_0, k_143_0, g_iconst, g_istore_n, v_iload_n, g_istore, entL, getL, setL, kL_i, kL_r, isI_s, isR_s, isJ_s, gV_s, iV_i, cs0, cs1, cs2, cs3, cs4, dn_nil, kd_si, kd_sl, kd_sw, mr_si, mr_sl, mr_sw, ml_si, ml_sw, mi_sl]
  refine lq (n := n) (f := ovS (h.mi s) x) (L := fun j a tl => some (.ref s) :: some (.int (Int32.ofNat q)) :: some (.int x) :: some (.int a) :: some (.int (Int32.ofNat j)) :: tl) (r := fun a => some (.inl (some (.int a)), h)) ?_ ?_ (n - q) q 0 [] (by omega)
  · intro j a tl hj
    refine ⟨tl, ?_⟩
    have e : ¬ Int32.ofNat (n) ≤ Int32.ofNat (j) := by rw [i32_le (by omega) (by omega)]; omega
    have s1 : Int32.ofNat (j) + 1 = Int32.ofNat (j + 1) := i32_add (b := 1)
    have b_1 : inb (Int32.ofNat (688 + j)) 1168 = true := inb_nat (by omega) (by decide)
    have n_1 : (Int32.ofNat (688 + j)).toNatClampNeg = 688 + j := i32_nat (by omega)
    have b_2 : inb (Int32.ofNat (848 + j)) 1168 = true := inb_nat (by omega) (by decide)
    have n_2 : (Int32.ofNat (848 + j)).toNatClampNeg = 848 + j := i32_nat (by omega)
    unfold ovS
    rw [D_143_5]
    by_cases c : x = -1
    · have z : (x = -1 ∨ h.mi s (688 + j) = x) := Or.inl c
      simp -implicitDefEqProofs only [D_143_0, k_143_0, k_143_5, D_143_32, k_143_32, D_143_43, k_143_43, D_143_44, k_143_44, D_143_52, k_143_52, R_143, g_iconst, g_istore_n, v_iload_n, g_istore, v_iload, v_aload_n, g_bipush, v_iaload, inI_0, g_icmp_ge, g_icmp_eq, g_sipush, g_iadd, g_icmp_ne, g_goto, v_iinc, g_ireturn, entL, getL, setL, kL_i, kL_r, isI_s, isR_s, isJ_s, gV_s, iV_i, cs0, cs1, cs2, cs3, cs4, dn_nil, kd_si, kd_sl, kd_sw, mr_si, mr_sl, mr_sw, ml_si, ml_sw, mi_sl, hk, in_8, ix_8, h8, ↓if_neg e, if_neg e, la_688, la_848, b_1, n_1, b_2, n_2, ↓if_pos c, if_pos c, ↓if_pos z, if_pos z, s1]
    · by_cases d : h.mi s (688 + j) = x
      · have z : (x = -1 ∨ h.mi s (688 + j) = x) := Or.inr d
        simp -implicitDefEqProofs only [D_143_0, k_143_0, k_143_5, D_143_32, k_143_32, D_143_43, k_143_43, D_143_44, k_143_44, D_143_52, k_143_52, R_143, g_iconst, g_istore_n, v_iload_n, g_istore, v_iload, v_aload_n, g_bipush, v_iaload, inI_0, g_icmp_ge, g_icmp_eq, g_sipush, g_iadd, g_icmp_ne, g_goto, v_iinc, g_ireturn, entL, getL, setL, kL_i, kL_r, isI_s, isR_s, isJ_s, gV_s, iV_i, cs0, cs1, cs2, cs3, cs4, dn_nil, kd_si, kd_sl, kd_sw, mr_si, mr_sl, mr_sw, ml_si, ml_sw, mi_sl, hk, in_8, ix_8, h8, ↓if_neg e, if_neg e, la_688, la_848, b_1, n_1, b_2, n_2, ↓if_neg c, if_neg c, ↓if_pos d, if_pos d, ↓if_pos z, if_pos z, s1]
      · have z : ¬ (x = -1 ∨ h.mi s (688 + j) = x) := fun q => q.elim c d
        simp -implicitDefEqProofs only [D_143_0, k_143_0, k_143_5, D_143_32, k_143_32, D_143_43, k_143_43, D_143_44, k_143_44, D_143_52, k_143_52, R_143, g_iconst, g_istore_n, v_iload_n, g_istore, v_iload, v_aload_n, g_bipush, v_iaload, inI_0, g_icmp_ge, g_icmp_eq, g_sipush, g_iadd, g_icmp_ne, g_goto, v_iinc, g_ireturn, entL, getL, setL, kL_i, kL_r, isI_s, isR_s, isJ_s, gV_s, iV_i, cs0, cs1, cs2, cs3, cs4, dn_nil, kd_si, kd_sl, kd_sw, mr_si, mr_sl, mr_sw, ml_si, ml_sw, mi_sl, hk, in_8, ix_8, h8, ↓if_neg e, if_neg e, la_688, la_848, b_1, n_1, b_2, n_2, ↓if_neg c, if_neg c, ↓if_neg d, if_neg d, ↓if_neg z, if_neg z, s1]
  · intro a tl
    have e : Int32.ofNat (n) ≤ Int32.ofNat (n) := by rw [i32_le (by omega) (by omega)]; omega
    rw [D_143_5]
    simp -implicitDefEqProofs only [D_143_0, k_143_0, k_143_5, D_143_32, k_143_32, D_143_43, k_143_43, D_143_44, k_143_44, D_143_52, k_143_52, R_143, g_iconst, g_istore_n, v_iload_n, g_istore, v_iload, v_aload_n, g_bipush, v_iaload, inI_0, g_icmp_ge, g_icmp_eq, g_sipush, g_iadd, g_icmp_ne, g_goto, v_iinc, g_ireturn, entL, getL, setL, kL_i, kL_r, isI_s, isR_s, isJ_s, gV_s, iV_i, cs0, cs1, cs2, cs3, cs4, dn_nil, kd_si, kd_sl, kd_sw, mr_si, mr_sl, mr_sw, ml_si, ml_sw, mi_sl, hk, in_8, ix_8, h8, ↓if_pos e, if_pos e, retX_int]
theorem R_141 : PG.2.1 141 = (some .int) := rfl
def bxS (S : Nat → Int32) (x : Int32) (j : Nat) (a : Int32) : Int32 := a + (if x = -1 ∨ S (688 + j) = x then 1 else 0)
theorem m_141 {s n q : Nat} (hn : n ≤ 80) (hq : q ≤ n) {x : Int32} {h : Mm} (hk : h.kd s = some (.inr (.int, 1168))) (h8 : h.mi s 8 = Int32.ofNat n) : dM PG 141 [.ref s, .int (Int32.ofNat q), .int x] h = some (.inl (some (.int (fl (bxS (h.mi s) x) (n - q) q 0))), h) := by
  rw [dM_of (Nat.le_of_ble_eq_true rfl)]
  simp -implicitDefEqProofs only [D_141_0, k_141_0, g_iconst, g_istore_n, v_iload_n, g_istore, entL, getL, setL, kL_i, kL_r, isI_s, isR_s, isJ_s, gV_s, iV_i, cs0, cs1, cs2, cs3, cs4, dn_nil, kd_si, kd_sl, kd_sw, mr_si, mr_sl, mr_sw, ml_si, ml_sw, mi_sl]
  refine lq (n := n) (f := bxS (h.mi s) x) (L := fun j a tl => some (.ref s) :: some (.int (Int32.ofNat q)) :: some (.int x) :: some (.int a) :: some (.int (Int32.ofNat j)) :: tl) (r := fun a => some (.inl (some (.int a)), h)) ?_ ?_ (n - q) q 0 [] (by omega)
  · intro j a tl hj
    refine ⟨tl, ?_⟩
    have e : ¬ Int32.ofNat (n) ≤ Int32.ofNat (j) := by rw [i32_le (by omega) (by omega)]; omega
    have s1 : Int32.ofNat (j) + 1 = Int32.ofNat (j + 1) := i32_add (b := 1)
    have b_1 : inb (Int32.ofNat (688 + j)) 1168 = true := inb_nat (by omega) (by decide)
    have n_1 : (Int32.ofNat (688 + j)).toNatClampNeg = 688 + j := i32_nat (by omega)
    unfold bxS
    rw [D_141_5]
    by_cases c : x = -1
    · have z : (x = -1 ∨ h.mi s (688 + j) = x) := Or.inl c
      simp -implicitDefEqProofs only [D_141_0, k_141_0, k_141_5, D_141_32, k_141_32, D_141_36, k_141_36, D_141_37, k_141_37, D_141_45, k_141_45, R_141, g_iconst, g_istore_n, v_iload_n, g_istore, v_iload, v_aload_n, g_bipush, v_iaload, inI_0, g_icmp_ge, g_icmp_eq, g_sipush, g_iadd, g_icmp_ne, g_goto, v_iinc, g_ireturn, entL, getL, setL, kL_i, kL_r, isI_s, isR_s, isJ_s, gV_s, iV_i, cs0, cs1, cs2, cs3, cs4, dn_nil, kd_si, kd_sl, kd_sw, mr_si, mr_sl, mr_sw, ml_si, ml_sw, mi_sl, hk, in_8, ix_8, h8, ↓if_neg e, if_neg e, la_688, b_1, n_1, ↓if_pos c, if_pos c, ↓if_pos z, if_pos z, s1]
    · by_cases d : h.mi s (688 + j) = x
      · have z : (x = -1 ∨ h.mi s (688 + j) = x) := Or.inr d
        simp -implicitDefEqProofs only [D_141_0, k_141_0, k_141_5, D_141_32, k_141_32, D_141_36, k_141_36, D_141_37, k_141_37, D_141_45, k_141_45, R_141, g_iconst, g_istore_n, v_iload_n, g_istore, v_iload, v_aload_n, g_bipush, v_iaload, inI_0, g_icmp_ge, g_icmp_eq, g_sipush, g_iadd, g_icmp_ne, g_goto, v_iinc, g_ireturn, entL, getL, setL, kL_i, kL_r, isI_s, isR_s, isJ_s, gV_s, iV_i, cs0, cs1, cs2, cs3, cs4, dn_nil, kd_si, kd_sl, kd_sw, mr_si, mr_sl, mr_sw, ml_si, ml_sw, mi_sl, hk, in_8, ix_8, h8, ↓if_neg e, if_neg e, la_688, b_1, n_1, ↓if_neg c, if_neg c, ↓if_pos d, if_pos d, ↓if_pos z, if_pos z, s1]
      · have z : ¬ (x = -1 ∨ h.mi s (688 + j) = x) := fun q => q.elim c d
        simp -implicitDefEqProofs only [D_141_0, k_141_0, k_141_5, D_141_32, k_141_32, D_141_36, k_141_36, D_141_37, k_141_37, D_141_45, k_141_45, R_141, g_iconst, g_istore_n, v_iload_n, g_istore, v_iload, v_aload_n, g_bipush, v_iaload, inI_0, g_icmp_ge, g_icmp_eq, g_sipush, g_iadd, g_icmp_ne, g_goto, v_iinc, g_ireturn, entL, getL, setL, kL_i, kL_r, isI_s, isR_s, isJ_s, gV_s, iV_i, cs0, cs1, cs2, cs3, cs4, dn_nil, kd_si, kd_sl, kd_sw, mr_si, mr_sl, mr_sw, ml_si, ml_sw, mi_sl, hk, in_8, ix_8, h8, ↓if_neg e, if_neg e, la_688, b_1, n_1, ↓if_neg c, if_neg c, ↓if_neg d, if_neg d, ↓if_neg z, if_neg z, s1]
  · intro a tl
    have e : Int32.ofNat (n) ≤ Int32.ofNat (n) := by rw [i32_le (by omega) (by omega)]; omega
    rw [D_141_5]
    simp -implicitDefEqProofs only [D_141_0, k_141_0, k_141_5, D_141_32, k_141_32, D_141_36, k_141_36, D_141_37, k_141_37, D_141_45, k_141_45, R_141, g_iconst, g_istore_n, v_iload_n, g_istore, v_iload, v_aload_n, g_bipush, v_iaload, inI_0, g_icmp_ge, g_icmp_eq, g_sipush, g_iadd, g_icmp_ne, g_goto, v_iinc, g_ireturn, entL, getL, setL, kL_i, kL_r, isI_s, isR_s, isJ_s, gV_s, iV_i, cs0, cs1, cs2, cs3, cs4, dn_nil, kd_si, kd_sl, kd_sw, mr_si, mr_sl, mr_sw, ml_si, ml_sw, mi_sl, hk, in_8, ix_8, h8, ↓if_pos e, if_pos e, retX_int]
theorem R_144 : PG.2.1 144 = (some .int) := rfl
def emS (pr : Int32) (S : Nat → Int32) (k : Nat) (j : Nat) (a : Int32) : Int32 := a + (if S (688 + j) = Int32.ofNat k then (if lateB S j = true then pr * (S (768 + j) - S (848 + j)) / 2 else pr * (S (768 + j) - S (848 + j))) else 0)
def emF (pr : Int32) (S : Nat → Int32) (k n : Nat) : Int32 := fl (emS pr S k) n 0 0
theorem m_144 {s n k : Nat} (hn : n ≤ 80) (hk4 : k < 4) {h : Mm} (H : MO h) (hk : h.kd s = some (.inr (.int, 1168))) (h8 : h.mi s 8 = Int32.ofNat n) : dM PG 144 [.ref 277, .ref s, .int (Int32.ofNat k)] h = some (.inl (some (.int (emF (h.mi 279 (12 + k)) (h.mi s) k n))), h) := by
  rw [dM_of (Nat.le_of_ble_eq_true rfl)]
  simp -implicitDefEqProofs only [D_144_0, k_144_0, g_iconst, g_istore_n, g_istore, entL, getL, setL, kL_i, kL_r, isI_s, isR_s, isJ_s, gV_s, iV_i, cs0, cs1, cs2, cs3, cs4, dn_nil, kd_si, kd_sl, kd_sw, mr_si, mr_sl, mr_sw, ml_si, ml_sw, mi_sl]
  refine lq (n := n) (f := emS (h.mi 279 (12 + k)) (h.mi s) k) (L := fun j a tl => some (.ref 277) :: some (.ref s) :: some (.int (Int32.ofNat k)) :: some (.int a) :: some (.int (Int32.ofNat j)) :: tl) (r := fun a => some (.inl (some (.int a)), h)) ?_ ?_ n 0 0 [] (by omega)
  · intro j a tl hj
    have e : ¬ Int32.ofNat (n) ≤ Int32.ofNat (j) := by rw [i32_le (by omega) (by omega)]; omega
    have s1 : Int32.ofNat (j) + 1 = Int32.ofNat (j + 1) := i32_add (b := 1)
    have b_1 : inb (Int32.ofNat (688 + j)) 1168 = true := inb_nat (by omega) (by decide)
    have n_1 : (Int32.ofNat (688 + j)).toNatClampNeg = 688 + j := i32_nat (by omega)
    have b_2 : inb (Int32.ofNat (848 + j)) 1168 = true := inb_nat (by omega) (by decide)
    have n_2 : (Int32.ofNat (848 + j)).toNatClampNeg = 848 + j := i32_nat (by omega)
    have b_3 : inb (Int32.ofNat (768 + j)) 1168 = true := inb_nat (by omega) (by decide)
    have n_3 : (Int32.ofNat (768 + j)).toNatClampNeg = 768 + j := i32_nat (by omega)
    have b_4 : inb (Int32.ofNat (12 + k)) 26 = true := inb_nat (by omega) (by decide)
    have n_4 : (Int32.ofNat (12 + k)).toNatClampNeg = 12 + k := i32_nat (by omega)
    have z2 : ¬ (2 : Int32) = 0 := by decide
    unfold emS
    by_cases c : h.mi s (688 + j) = Int32.ofNat k
    · refine ⟨some (.int (h.mi 279 (12 + k) * (h.mi s (768 + j) - h.mi s (848 + j)))) :: tl.tail, ?_⟩
      rw [D_144_5]
      cases c2 : lateB (h.mi s) j with
      | true => simp -implicitDefEqProofs only [D_144_0, k_144_0, k_144_5, D_144_29, k_144_29, D_144_75, k_144_75, D_144_77, k_144_77, D_144_79, k_144_79, D_144_85, k_144_85, R_144, g_iconst, g_istore_n, g_istore, v_iload, v_aload_n, g_bipush, v_iaload, inI_0, g_icmp_ge, g_sipush, g_iadd, v_iload_n, g_icmp_eq, g_goto, g_getfield, sv_a, rf_s, g_isub, g_imul, v_callS2, aft_v, aft_n, g_if_eq, g_idiv, v_iinc, g_ireturn, entL, getL, setL, kL_i, kL_r, isI_s, isR_s, isJ_s, gV_s, iV_i, cs0, cs1, cs2, cs3, cs4, dn_nil, kd_si, kd_sl, kd_sw, mr_si, mr_sl, mr_sw, ml_si, ml_sw, mi_sl, mk_277 H, mk_278 H, mk_279 H, mk_280 H, mk_281 H, mk_282 H, mk_283 H, mk_284 H, mk_285 H, mk_286 H, mk_287 H, mk_288 H, mk_289 H, mr_1 H, mr_11 H, mr_12 H, mr_13 H, mr_14 H, mr_15 H, mr_16 H, mr_17 H, mr_18 H, mr_19 H, mr_24 H, mr_25 H, hk, in_8, ix_8, h8, setL_0, ↓if_neg e, if_neg e, la_688, la_848, la_768, la_12, b_1, n_1, b_2, n_2, b_3, n_3, b_4, n_4, ↓if_pos c, if_pos c, m_243 (show j < 80 by omega) hk, c2, b2i_1, ↓if_neg z_1, if_neg z_1, ↓if_neg z2, if_neg z2, ↓if_true, if_true, s1]
      | false => simp -implicitDefEqProofs only [D_144_0, k_144_0, k_144_5, D_144_29, k_144_29, D_144_75, k_144_75, D_144_77, k_144_77, D_144_79, k_144_79, D_144_85, k_144_85, R_144, g_iconst, g_istore_n, g_istore, v_iload, v_aload_n, g_bipush, v_iaload, inI_0, g_icmp_ge, g_sipush, g_iadd, v_iload_n, g_icmp_eq, g_goto, g_getfield, sv_a, rf_s, g_isub, g_imul, v_callS2, aft_v, aft_n, g_if_eq, g_idiv, v_iinc, g_ireturn, entL, getL, setL, kL_i, kL_r, isI_s, isR_s, isJ_s, gV_s, iV_i, cs0, cs1, cs2, cs3, cs4, dn_nil, kd_si, kd_sl, kd_sw, mr_si, mr_sl, mr_sw, ml_si, ml_sw, mi_sl, mk_277 H, mk_278 H, mk_279 H, mk_280 H, mk_281 H, mk_282 H, mk_283 H, mk_284 H, mk_285 H, mk_286 H, mk_287 H, mk_288 H, mk_289 H, mr_1 H, mr_11 H, mr_12 H, mr_13 H, mr_14 H, mr_15 H, mr_16 H, mr_17 H, mr_18 H, mr_19 H, mr_24 H, mr_25 H, hk, in_8, ix_8, h8, setL_0, ↓if_neg e, if_neg e, la_688, la_848, la_768, la_12, b_1, n_1, b_2, n_2, b_3, n_3, b_4, n_4, ↓if_pos c, if_pos c, m_243 (show j < 80 by omega) hk, c2, b2i_0, ↓if_true, if_true, Bool.false_eq_true, ↓if_false, if_false, s1]
    · refine ⟨tl, ?_⟩
      rw [D_144_5]
      simp -implicitDefEqProofs only [D_144_0, k_144_0, k_144_5, D_144_29, k_144_29, D_144_75, k_144_75, D_144_77, k_144_77, D_144_79, k_144_79, D_144_85, k_144_85, R_144, g_iconst, g_istore_n, g_istore, v_iload, v_aload_n, g_bipush, v_iaload, inI_0, g_icmp_ge, g_sipush, g_iadd, v_iload_n, g_icmp_eq, g_goto, g_getfield, sv_a, rf_s, g_isub, g_imul, v_callS2, aft_v, aft_n, g_if_eq, g_idiv, v_iinc, g_ireturn, entL, getL, setL, kL_i, kL_r, isI_s, isR_s, isJ_s, gV_s, iV_i, cs0, cs1, cs2, cs3, cs4, dn_nil, kd_si, kd_sl, kd_sw, mr_si, mr_sl, mr_sw, ml_si, ml_sw, mi_sl, mk_277 H, mk_278 H, mk_279 H, mk_280 H, mk_281 H, mk_282 H, mk_283 H, mk_284 H, mk_285 H, mk_286 H, mk_287 H, mk_288 H, mk_289 H, mr_1 H, mr_11 H, mr_12 H, mr_13 H, mr_14 H, mr_15 H, mr_16 H, mr_17 H, mr_18 H, mr_19 H, mr_24 H, mr_25 H, hk, in_8, ix_8, h8, ↓if_neg e, if_neg e, la_688, b_1, n_1, ↓if_neg c, if_neg c, Int32.add_zero, s1]
  · intro a tl
    have e : Int32.ofNat (n) ≤ Int32.ofNat (n) := by rw [i32_le (by omega) (by omega)]; omega
    rw [D_144_5]
    simp -implicitDefEqProofs only [D_144_0, k_144_0, k_144_5, D_144_29, k_144_29, D_144_75, k_144_75, D_144_77, k_144_77, D_144_79, k_144_79, D_144_85, k_144_85, R_144, g_iconst, g_istore_n, g_istore, v_iload, v_aload_n, g_bipush, v_iaload, inI_0, g_icmp_ge, g_sipush, g_iadd, v_iload_n, g_icmp_eq, g_goto, g_getfield, sv_a, rf_s, g_isub, g_imul, v_callS2, aft_v, aft_n, g_if_eq, g_idiv, v_iinc, g_ireturn, entL, getL, setL, kL_i, kL_r, isI_s, isR_s, isJ_s, gV_s, iV_i, cs0, cs1, cs2, cs3, cs4, dn_nil, kd_si, kd_sl, kd_sw, mr_si, mr_sl, mr_sw, ml_si, ml_sw, mi_sl, hk, in_8, ix_8, h8, ↓if_pos e, if_pos e, retX_int]
theorem R_146 : PG.2.1 146 = (some .long) := rfl
def eaM (pr : Nat → Int32) (S : Nat → Int32) (n k : Nat) (a : Int64) : Int64 := a + (emF (pr k) S k n).toInt64
theorem m_146 {s n nk : Nat} (hn : n ≤ 80) (hnk : nk ≤ 4) {h : Mm} (H : MO h) (hk : h.kd s = some (.inr (.int, 1168))) (h8 : h.mi s 8 = Int32.ofNat n) (h7 : h.mi 279 7 = Int32.ofNat nk) : dM PG 146 [.ref 277, .ref s] h = some (.inl (some (.long (fl (eaM (fun k => h.mi 279 (12 + k)) (h.mi s) n) nk 0 0))), h) := by
  rw [dM_of (Nat.le_of_ble_eq_true rfl)]
  simp -implicitDefEqProofs only [D_146_0, k_146_0, g_lconst, g_lstore_n, g_iconst, g_istore, entL, getL, setL, kL_i, kL_r, isI_s, isR_s, isJ_s, gV_s, iV_i, cs0, cs1, cs2, cs3, cs4, dn_nil, kd_si, kd_sl, kd_sw, mr_si, mr_sl, mr_sw, ml_si, ml_sw, mi_sl, setL2, nonL, kL_n, kL_j]
  refine lq (n := nk) (f := eaM (fun k => h.mi 279 (12 + k)) (h.mi s) n) (L := fun k a tl => some (.ref 277) :: some (.ref s) :: some (.long a) :: none :: some (.int (Int32.ofNat k)) :: tl) (r := fun a => some (.inl (some (.long a)), h)) ?_ ?_ nk 0 0 [] (by omega)
  · intro k a tl hk'
    refine ⟨tl, ?_⟩
    have e : ¬ Int32.ofNat (nk) ≤ Int32.ofNat (k) := by rw [i32_le (by omega) (by omega)]; omega
    have s1 : Int32.ofNat (k) + 1 = Int32.ofNat (k + 1) := i32_add (b := 1)
    unfold eaM
    rw [D_146_5]
    simp -implicitDefEqProofs only [D_146_0, k_146_0, k_146_5, D_146_34, k_146_34, R_146, g_lconst, g_lstore_n, g_iconst, g_istore, v_iload, v_aload_n, g_getfield, sv_a, rf_s, g_bipush, v_iaload, inI_0, g_icmp_ge, v_lload_n, v_callV3, aft_v, aft_n, g_i2l, g_ladd, v_iinc, g_goto, g_lreturn, entL, getL, setL, kL_i, kL_r, isI_s, isR_s, isJ_s, gV_s, iV_i, cs0, cs1, cs2, cs3, cs4, dn_nil, kd_si, kd_sl, kd_sw, mr_si, mr_sl, mr_sw, ml_si, ml_sw, mi_sl, mk_277 H, mk_278 H, mk_279 H, mk_280 H, mk_281 H, mk_282 H, mk_283 H, mk_284 H, mk_285 H, mk_286 H, mk_287 H, mk_288 H, mk_289 H, mr_1 H, mr_11 H, mr_12 H, mr_13 H, mr_14 H, mr_15 H, mr_16 H, mr_17 H, mr_18 H, mr_19 H, mr_24 H, mr_25 H, ip_7, ix_7, h7, setL2, nonL, kL_n, kL_j, ↓if_neg e, if_neg e, m_144 hn (show k < 4 by omega) H hk h8, s1]
  · intro a tl
    have e : Int32.ofNat (nk) ≤ Int32.ofNat (nk) := by rw [i32_le (by omega) (by omega)]; omega
    rw [D_146_5]
    simp -implicitDefEqProofs only [D_146_0, k_146_0, k_146_5, D_146_34, k_146_34, R_146, g_lconst, g_lstore_n, g_iconst, g_istore, v_iload, v_aload_n, g_getfield, sv_a, rf_s, g_bipush, v_iaload, inI_0, g_icmp_ge, v_lload_n, v_callV3, aft_v, aft_n, g_i2l, g_ladd, v_iinc, g_goto, g_lreturn, entL, getL, setL, kL_i, kL_r, isI_s, isR_s, isJ_s, gV_s, iV_i, cs0, cs1, cs2, cs3, cs4, dn_nil, kd_si, kd_sl, kd_sw, mr_si, mr_sl, mr_sw, ml_si, ml_sw, mi_sl, mk_277 H, mk_278 H, mk_279 H, mk_280 H, mk_281 H, mk_282 H, mk_283 H, mk_284 H, mk_285 H, mk_286 H, mk_287 H, mk_288 H, mk_289 H, mr_1 H, mr_11 H, mr_12 H, mr_13 H, mr_14 H, mr_15 H, mr_16 H, mr_17 H, mr_18 H, mr_19 H, mr_24 H, mr_25 H, ip_7, ix_7, h7, ↓if_pos e, if_pos e]
theorem R_59 : PG.2.1 59 = (some .int) := rfl
theorem m_59n {i : Int32} {h : Mm} (H : MO h) (hl : h.mi 277 21 = 0) : dM PG 59 [.ref 277, .int i] h = some (.inl (some (.int 0)), h.si 277 0 1) := by
  rw [dM_of (Nat.le_of_ble_eq_true rfl)]
  simp -implicitDefEqProofs only [D_59_0, k_59_0, D_59_24, k_59_24, D_59_25, k_59_25, R_59, v_aload_n, v_iload_n, v_callV2, aft_v, aft_n, g_if_eq, g_getfield, sv_a, rf_s, g_iconst, v_callS3, g_goto, g_ireturn, entL, getL, setL, kL_i, kL_r, isI_s, isR_s, isJ_s, gV_s, iV_i, cs0, cs1, cs2, cs3, cs4, dn_nil, kd_si, kd_sl, kd_sw, mr_si, mr_sl, mr_sw, ml_si, ml_sw, mi_sl, mk_277 H, mk_278 H, mk_279 H, mk_280 H, mk_281 H, mk_282 H, mk_283 H, mk_284 H, mk_285 H, mk_286 H, mk_287 H, mk_288 H, mk_289 H, mr_1 H, mr_11 H, mr_12 H, mr_13 H, mr_14 H, mr_15 H, mr_16 H, mr_17 H, mr_18 H, mr_19 H, mr_24 H, mr_25 H, m_154 H, m_138n H hl, ↓if_true, if_true, retX_int]
theorem m_59x {i : Int32} {h : Mm} (H : MO h) (hl : ¬ h.mi 277 21 = 0) (c : inF i 0 (h.mi 279 7 - 1) = 0) : dM PG 59 [.ref 277, .int i] h = some (.inl (some (.int 0)), h.si 277 0 2) := by
  rw [dM_of (Nat.le_of_ble_eq_true rfl)]
  simp -implicitDefEqProofs only [D_59_0, k_59_0, D_59_24, k_59_24, D_59_25, k_59_25, R_59, v_aload_n, v_iload_n, v_callV2, aft_v, aft_n, g_if_eq, g_getfield, sv_a, rf_s, g_iconst, v_callS3, g_goto, g_ireturn, entL, getL, setL, kL_i, kL_r, isI_s, isR_s, isJ_s, gV_s, iV_i, cs0, cs1, cs2, cs3, cs4, dn_nil, kd_si, kd_sl, kd_sw, mr_si, mr_sl, mr_sw, ml_si, ml_sw, mi_sl, mk_277 H, mk_278 H, mk_279 H, mk_280 H, mk_281 H, mk_282 H, mk_283 H, mk_284 H, mk_285 H, mk_286 H, mk_287 H, mk_288 H, mk_289 H, mr_1 H, mr_11 H, mr_12 H, mr_13 H, mr_14 H, mr_15 H, mr_16 H, mr_17 H, mr_18 H, mr_19 H, mr_24 H, mr_25 H, m_154 H, c, m_138x H hl, ↓if_true, if_true, retX_int]
theorem m_59y {i : Int32} {n : Nat} (hn : n ≤ 80) {h : Mm} (H : MO h) (hl : ¬ h.mi 277 21 = 0) (c : inF i 0 (h.mi 279 7 - 1) = 1) (h8 : h.mi 283 8 = Int32.ofNat n) : dM PG 59 [.ref 277, .int i] h = some (.inl (some (.int (fl (ovS (h.mi 283) i) n 0 0))), h.si 277 0 0) := by
  rw [dM_of (Nat.le_of_ble_eq_true rfl)]
  have g := m_143 (x := i) hn (Nat.zero_le n) (h := h.si 277 0 0) (mk_283 H) (by rw [mi_sa k283, h8])
  rw [mi_sa k283, show Int32.ofNat 0 = 0 from rfl, Nat.sub_zero] at g
  simp -implicitDefEqProofs only [D_59_0, k_59_0, D_59_24, k_59_24, D_59_25, k_59_25, R_59, v_aload_n, v_iload_n, v_callV2, aft_v, aft_n, g_if_eq, g_getfield, sv_a, rf_s, g_iconst, v_callS3, g_goto, g_ireturn, entL, getL, setL, kL_i, kL_r, isI_s, isR_s, isJ_s, gV_s, iV_i, cs0, cs1, cs2, cs3, cs4, dn_nil, kd_si, kd_sl, kd_sw, mr_si, mr_sl, mr_sw, ml_si, ml_sw, mi_sl, mk_277 H, mk_278 H, mk_279 H, mk_280 H, mk_281 H, mk_282 H, mk_283 H, mk_284 H, mk_285 H, mk_286 H, mk_287 H, mk_288 H, mk_289 H, mr_1 H, mr_11 H, mr_12 H, mr_13 H, mr_14 H, mr_15 H, mr_16 H, mr_17 H, mr_18 H, mr_19 H, mr_24 H, mr_25 H, m_154 H, c, m_138y H hl, ↓if_neg z_1, if_neg z_1, g, retX_int]
theorem R_57 : PG.2.1 57 = (some .int) := rfl
theorem m_57n {i : Int32} {h : Mm} (H : MO h) (hl : h.mi 277 21 = 0) : dM PG 57 [.ref 277, .int i] h = some (.inl (some (.int 0)), h.si 277 0 1) := by
  rw [dM_of (Nat.le_of_ble_eq_true rfl)]
  simp -implicitDefEqProofs only [D_57_0, k_57_0, D_57_24, k_57_24, D_57_25, k_57_25, R_57, v_aload_n, v_iload_n, v_callV2, aft_v, aft_n, g_if_eq, g_getfield, sv_a, rf_s, v_callV3, g_goto, g_iconst, g_ireturn, entL, getL, setL, kL_i, kL_r, isI_s, isR_s, isJ_s, gV_s, iV_i, cs0, cs1, cs2, cs3, cs4, dn_nil, kd_si, kd_sl, kd_sw, mr_si, mr_sl, mr_sw, ml_si, ml_sw, mi_sl, mk_277 H, mk_278 H, mk_279 H, mk_280 H, mk_281 H, mk_282 H, mk_283 H, mk_284 H, mk_285 H, mk_286 H, mk_287 H, mk_288 H, mk_289 H, mr_1 H, mr_11 H, mr_12 H, mr_13 H, mr_14 H, mr_15 H, mr_16 H, mr_17 H, mr_18 H, mr_19 H, mr_24 H, mr_25 H, m_154 H, m_138n H hl, ↓if_true, if_true, retX_int]
theorem m_57x {i : Int32} {h : Mm} (H : MO h) (hl : ¬ h.mi 277 21 = 0) (c : inF i 0 (h.mi 279 7 - 1) = 0) : dM PG 57 [.ref 277, .int i] h = some (.inl (some (.int 0)), h.si 277 0 2) := by
  rw [dM_of (Nat.le_of_ble_eq_true rfl)]
  simp -implicitDefEqProofs only [D_57_0, k_57_0, D_57_24, k_57_24, D_57_25, k_57_25, R_57, v_aload_n, v_iload_n, v_callV2, aft_v, aft_n, g_if_eq, g_getfield, sv_a, rf_s, v_callV3, g_goto, g_iconst, g_ireturn, entL, getL, setL, kL_i, kL_r, isI_s, isR_s, isJ_s, gV_s, iV_i, cs0, cs1, cs2, cs3, cs4, dn_nil, kd_si, kd_sl, kd_sw, mr_si, mr_sl, mr_sw, ml_si, ml_sw, mi_sl, mk_277 H, mk_278 H, mk_279 H, mk_280 H, mk_281 H, mk_282 H, mk_283 H, mk_284 H, mk_285 H, mk_286 H, mk_287 H, mk_288 H, mk_289 H, mr_1 H, mr_11 H, mr_12 H, mr_13 H, mr_14 H, mr_15 H, mr_16 H, mr_17 H, mr_18 H, mr_19 H, mr_24 H, mr_25 H, m_154 H, c, m_138x H hl, ↓if_true, if_true, retX_int]
theorem m_57y {k n : Nat} (hk4 : k < 4) (hn : n ≤ 80) {h : Mm} (H : MO h) (hl : ¬ h.mi 277 21 = 0) (c : inF (Int32.ofNat k) 0 (h.mi 279 7 - 1) = 1) (h8 : h.mi 283 8 = Int32.ofNat n) : dM PG 57 [.ref 277, .int (Int32.ofNat k)] h = some (.inl (some (.int (emF (h.mi 279 (12 + k)) (h.mi 283) k n))), h.si 277 0 0) := by
  rw [dM_of (Nat.le_of_ble_eq_true rfl)]
  have g := m_144 hn hk4 (h := h.si 277 0 0) H (mk_283 H) (by rw [mi_sa k283, h8])
  rw [mi_sa k283, mi_sa k279] at g
  simp -implicitDefEqProofs only [D_57_0, k_57_0, D_57_24, k_57_24, D_57_25, k_57_25, R_57, v_aload_n, v_iload_n, v_callV2, aft_v, aft_n, g_if_eq, g_getfield, sv_a, rf_s, v_callV3, g_goto, g_iconst, g_ireturn, entL, getL, setL, kL_i, kL_r, isI_s, isR_s, isJ_s, gV_s, iV_i, cs0, cs1, cs2, cs3, cs4, dn_nil, kd_si, kd_sl, kd_sw, mr_si, mr_sl, mr_sw, ml_si, ml_sw, mi_sl, mk_277 H, mk_278 H, mk_279 H, mk_280 H, mk_281 H, mk_282 H, mk_283 H, mk_284 H, mk_285 H, mk_286 H, mk_287 H, mk_288 H, mk_289 H, mr_1 H, mr_11 H, mr_12 H, mr_13 H, mr_14 H, mr_15 H, mr_16 H, mr_17 H, mr_18 H, mr_19 H, mr_24 H, mr_25 H, m_154 H, c, m_138y H hl, ↓if_neg z_1, if_neg z_1, g, retX_int]
theorem R_175 : PG.2.1 175 = (some .boolean) := rfl
theorem m_175n {n most at' : Int32} {h : Mm} (H : MO h) (hl : h.mi 277 21 = 0) : dM PG 175 [.ref 277, .int n, .int most, .int at'] h = some (.inl (some (.int 0)), h.si 277 0 1) := by
  rw [dM_of (Nat.le_of_ble_eq_true rfl)]
  simp -implicitDefEqProofs only [D_175_0, k_175_0, D_175_10, k_175_10, D_175_24, k_175_24, D_175_25, k_175_25, D_175_39, k_175_39, D_175_40, k_175_40, R_175, v_aload_n, g_iconst, v_callV2, aft_v, aft_n, g_if_ne, g_ireturn, v_iload_n, v_callS3, g_if_eq, g_goto, g_put_i, g_getfield, sv_i, rf_s, entL, getL, setL, kL_i, kL_r, isI_s, isR_s, isJ_s, gV_s, iV_i, cs0, cs1, cs2, cs3, cs4, dn_nil, kd_si, kd_sl, kd_sw, mr_si, mr_sl, mr_sw, ml_si, ml_sw, mi_sl, mk_277 H, mk_278 H, mk_279 H, mk_280 H, mk_281 H, mk_282 H, mk_283 H, mk_284 H, mk_285 H, mk_286 H, mk_287 H, mk_288 H, mk_289 H, mr_1 H, mr_11 H, mr_12 H, mr_13 H, mr_14 H, mr_15 H, mr_16 H, mr_17 H, mr_18 H, mr_19 H, mr_24 H, mr_25 H, m_138n H hl, ↓if_true, if_true, rX_0]
theorem si_si {h : Mm} {a k : Nat} {v w : Int32} : (h.si a k v).si a k w = h.si a k w := by
  show (h.1, h.2.1, zu2 (zu2 h.mi a k v) a k w, h.ml, h.mr) = (h.1, h.2.1, zu2 h.mi a k w, h.ml, h.mr)
  have e : zu2 (zu2 h.mi a k v) a k w = zu2 h.mi a k w := by
    funext i j
    unfold zu2 zu
    by_cases c : i = a
    · rw [if_pos c, if_pos c, if_pos rfl]
      split <;> rfl
    · rw [if_neg c, if_neg c, if_neg c]
  rw [e]
theorem m_175x {n most at' : Int32} {h : Mm} (H : MO h) (hl : ¬ h.mi 277 21 = 0) (ha : ¬ at' = 0) (c : inF n 1 most = 0) : dM PG 175 [.ref 277, .int n, .int most, .int at'] h = some (.inl (some (.int 0)), h.si 277 0 at') := by
  rw [dM_of (Nat.le_of_ble_eq_true rfl)]
  simp -implicitDefEqProofs only [D_175_0, k_175_0, D_175_10, k_175_10, D_175_24, k_175_24, D_175_25, k_175_25, D_175_39, k_175_39, D_175_40, k_175_40, R_175, v_aload_n, g_iconst, v_callV2, aft_v, aft_n, g_if_ne, g_ireturn, v_iload_n, v_callS3, g_if_eq, g_goto, g_put_i, g_getfield, sv_i, rf_s, entL, getL, setL, kL_i, kL_r, isI_s, isR_s, isJ_s, gV_s, iV_i, cs0, cs1, cs2, cs3, cs4, dn_nil, kd_si, kd_sl, kd_sw, mr_si, mr_sl, mr_sw, ml_si, ml_sw, mi_sl, mk_277 H, mk_278 H, mk_279 H, mk_280 H, mk_281 H, mk_282 H, mk_283 H, mk_284 H, mk_285 H, mk_286 H, mk_287 H, mk_288 H, mk_289 H, mr_1 H, mr_11 H, mr_12 H, mr_13 H, mr_14 H, mr_15 H, mr_16 H, mr_17 H, mr_18 H, mr_19 H, mr_24 H, mr_25 H, m_138y H hl, m_136, c, ↓if_true, if_true, ↓if_neg z_1, if_neg z_1, si_si, mi_ss, ↓if_neg ha, if_neg ha, rX_0]
theorem m_175y {n most at' : Int32} {h : Mm} (H : MO h) (hl : ¬ h.mi 277 21 = 0) (c : inF n 1 most = 1) : dM PG 175 [.ref 277, .int n, .int most, .int at'] h = some (.inl (some (.int 1)), h.si 277 0 0) := by
  rw [dM_of (Nat.le_of_ble_eq_true rfl)]
  simp -implicitDefEqProofs only [D_175_0, k_175_0, D_175_10, k_175_10, D_175_24, k_175_24, D_175_25, k_175_25, D_175_39, k_175_39, D_175_40, k_175_40, R_175, v_aload_n, g_iconst, v_callV2, aft_v, aft_n, g_if_ne, g_ireturn, v_iload_n, v_callS3, g_if_eq, g_goto, g_put_i, g_getfield, sv_i, rf_s, entL, getL, setL, kL_i, kL_r, isI_s, isR_s, isJ_s, gV_s, iV_i, cs0, cs1, cs2, cs3, cs4, dn_nil, kd_si, kd_sl, kd_sw, mr_si, mr_sl, mr_sw, ml_si, ml_sw, mi_sl, mk_277 H, mk_278 H, mk_279 H, mk_280 H, mk_281 H, mk_282 H, mk_283 H, mk_284 H, mk_285 H, mk_286 H, mk_287 H, mk_288 H, mk_289 H, mr_1 H, mr_11 H, mr_12 H, mr_13 H, mr_14 H, mr_15 H, mr_16 H, mr_17 H, mr_18 H, mr_19 H, mr_24 H, mr_25 H, m_138y H hl, m_136, c, ↓if_true, if_true, ↓if_neg z_1, if_neg z_1, si_si, mi_ss, rX_1]
