-- ===== loops =====
theorem lp {A : Type} {P : Pg} {y pc n : Nat} {L : Nat → A → Lc → Lc} {h : A → Mm} {f : Nat → A → A} {r : A → Option Rs} {I : Nat → A → Prop}
    (hs : ∀ i a tl, i < n → I i a → I (i + 1) (f i a) ∧ ∃ tl', dB P y pc (L i a tl) [] (h a) = dB P y pc (L (i + 1) (f i a) tl') [] (h (f i a)))
    (he : ∀ a tl, I n a → dB P y pc (L n a tl) [] (h a) = r a) : ∀ (d i : Nat) (a : A) (tl : Lc), i + d = n → I i a → dB P y pc (L i a tl) [] (h a) = r (fl f d i a) := by
  intro d
  induction d with
  | zero =>
    intro i a tl hi hI
    obtain rfl : i = n := by omega
    exact he a tl hI
  | succ d ih =>
    intro i a tl hi hI
    obtain ⟨hI', tl', e⟩ := hs i a tl (by omega) hI
    rw [e]
    exact ih (i + 1) (f i a) tl' (by omega) hI'
theorem lq {A : Type} {P : Pg} {y pc n : Nat} {L : Nat → A → Lc → Lc} {h : Mm} {f : Nat → A → A} {r : A → Option Rs}
    (hs : ∀ i a tl, i < n → ∃ tl', dB P y pc (L i a tl) [] h = dB P y pc (L (i + 1) (f i a) tl') [] h)
    (he : ∀ a tl, dB P y pc (L n a tl) [] h = r a) (d i : Nat) (a : A) (tl : Lc) (hi : i + d = n) : dB P y pc (L i a tl) [] h = r (fl f d i a) :=
  lp (I := fun _ _ => True) (h := fun _ => h) (fun i a tl hi _ => ⟨trivial, hs i a tl hi⟩) (fun a tl _ => he a tl) d i a tl hi trivial
/-- the first number from i on that p takes -/
def fnd (p : Nat → Bool) : Nat → Nat → Option Nat
  | 0, _ => none
  | d + 1, i => if p i = true then some i else fnd p d (i + 1)
theorem lf {P : Pg} {y pc n : Nat} {L : Nat → Lc → Lc} {h : Mm} {p : Nat → Bool} {r : Option Nat → Option Rs}
    (hs : ∀ i tl, i < n → p i = false → ∃ tl', dB P y pc (L i tl) [] h = dB P y pc (L (i + 1) tl') [] h)
    (hy : ∀ i tl, i < n → p i = true → dB P y pc (L i tl) [] h = r (some i))
    (he : ∀ tl, dB P y pc (L n tl) [] h = r none) : ∀ (d i : Nat) (tl : Lc), i + d = n → dB P y pc (L i tl) [] h = r (fnd p d i) := by
  intro d
  induction d with
  | zero =>
    intro i tl hi
    obtain rfl : i = n := by omega
    exact he tl
  | succ d ih =>
    intro i tl hi
    unfold fnd
    cases c : p i with
    | true => rw [if_pos rfl]; exact hy i tl (by omega) c
    | false =>
      rw [if_neg (by decide)]
      obtain ⟨tl', e⟩ := hs i tl (by omega) c
      rw [e]
      exact ih (i + 1) tl' (by omega)
theorem setL_0 {tl : Lc} {v : Value} : setL tl 0 v = some v :: tl.tail := by
  cases tl <;> rfl
-- ===== the grader: boxes =====
def exF (R : Nat → Nat → Int32) (k : Nat) : Int32 := R 15 k - R 16 k
theorem R_248 : PG.2.1 248 = (some .int) := rfl
theorem m_248 {b k : Nat} (hk : k < 80) {h : Mm} (T : ST h b) {R : Nat → Nat → Int32} : dM PG 248 [.ref (b + 13), .int (Int32.ofNat k)] (h.sb b R) = some (.inl (some (.int (exF R k))), h.sb b R) := by
  rw [dM_of (Nat.le_of_ble_eq_true rfl)]
  have b_1 : inb (Int32.ofNat (k)) 80 = true := inb_nat (by omega) (by decide)
  have n_1 : (Int32.ofNat (k)).toNatClampNeg = k := i32_nat (by omega)
  simp -implicitDefEqProofs only [D_248_0, k_248_0, R_248, v_aload_n, g_getfield, sv_a, rf_s, v_iload_n, v_iaload, inI_0, g_isub, g_ireturn, entL, getL, setL, kL_i, kL_r, isI_s, isR_s, isJ_s, gV_s, iV_i, cs0, cs1, cs2, cs3, cs4, dn_nil, kd_si, kd_sl, kd_sw, mr_si, mr_sl, mr_sw, ml_si, ml_sw, mi_sl, st_k T, st_r6 T, st_r7 T, st_r8 T, st_r9 T, st_r10 T, st_r11 T, st_r12 T, st_r13 T, st_k1 T, st_k2 T, st_k3 T, st_k4 T, st_k5 T, st_k6 T, st_ki T, st_i2 T, st_i3 T, st_i4 T, st_i5 T, st_i6 T, st_k8 T, st_k9 T, st_k10 T, st_k11 T, st_k12 T, st_kb T, st_b2 T, st_b3 T, st_b4 T, st_b5 T, st_b6 T, st_k14 T, st_k15 T, st_k16 T, st_k17 T, st_k18 T, kd_sb, mr_sb, ml_sb, bm_0, bm_1, bm_2, bm_3, bm_4, bm_5, bm_6, bm_7, bm_8, bm_9, bm_10, bm_11, bm_12, bm_13, bm_14, bm_15, bm_16, bm_17, bm_18, bs_0, bs_1, bs_2, bs_3, bs_4, bs_5, bs_6, bs_7, bs_8, bs_9, bs_10, bs_11, bs_12, bs_13, bs_14, bs_15, bs_16, bs_17, bs_18, b_1, n_1, retX_int]
  rfl
theorem R_317 : PG.2.1 317 = (some .int) := rfl
theorem m_317 {b q n : Nat} (hn : n ≤ 80) (hq : q ≤ n) {h : Mm} (T : ST h b) {R : Nat → Nat → Int32} (h13 : R 13 0 = Int32.ofNat n) : dM PG 317 [.ref (b + 13), .int (Int32.ofNat q)] (h.sb b R) = some (.inl (some (.int (fl (fun k a => a + exF R k) (n - q) q 0))), h.sb b R) := by
  rw [dM_of (Nat.le_of_ble_eq_true rfl)]
  simp -implicitDefEqProofs only [D_317_0, k_317_0, g_iconst, g_istore_n, v_iload_n, entL, getL, setL, kL_i, kL_r, isI_s, isR_s, isJ_s, gV_s, iV_i, cs0, cs1, cs2, cs3, cs4, dn_nil, kd_si, kd_sl, kd_sw, mr_si, mr_sl, mr_sw, ml_si, ml_sw, mi_sl]
  refine lq (n := n) (f := fun k a => a + exF R k) (L := fun k a tl => some (.ref (b + 13)) :: some (.int (Int32.ofNat q)) :: some (.int a) :: some (.int (Int32.ofNat k)) :: tl) (r := fun a => some (.inl (some (.int a)), h.sb b R)) ?_ ?_ (n - q) q 0 [] (by omega)
  · intro k a tl hk
    refine ⟨tl, ?_⟩
    have e : ¬ Int32.ofNat (n) ≤ Int32.ofNat (k) := by rw [i32_le (by omega) (by omega)]; omega
    have s1 : Int32.ofNat (k) + 1 = Int32.ofNat (k + 1) := i32_add (b := 1)
    rw [D_317_4]
    simp -implicitDefEqProofs only [D_317_0, k_317_0, k_317_4, D_317_26, k_317_26, R_317, g_iconst, g_istore_n, v_iload_n, v_aload_n, g_getfield, sv_i, rf_s, g_icmp_ge, v_callV2, aft_v, aft_n, g_iadd, v_iinc, g_goto, g_ireturn, entL, getL, setL, kL_i, kL_r, isI_s, isR_s, isJ_s, gV_s, iV_i, cs0, cs1, cs2, cs3, cs4, dn_nil, kd_si, kd_sl, kd_sw, mr_si, mr_sl, mr_sw, ml_si, ml_sw, mi_sl, st_k T, st_r6 T, st_r7 T, st_r8 T, st_r9 T, st_r10 T, st_r11 T, st_r12 T, st_r13 T, st_k1 T, st_k2 T, st_k3 T, st_k4 T, st_k5 T, st_k6 T, st_ki T, st_i2 T, st_i3 T, st_i4 T, st_i5 T, st_i6 T, st_k8 T, st_k9 T, st_k10 T, st_k11 T, st_k12 T, st_kb T, st_b2 T, st_b3 T, st_b4 T, st_b5 T, st_b6 T, st_k14 T, st_k15 T, st_k16 T, st_k17 T, st_k18 T, kd_sb, mr_sb, ml_sb, bm_0, bm_1, bm_2, bm_3, bm_4, bm_5, bm_6, bm_7, bm_8, bm_9, bm_10, bm_11, bm_12, bm_13, bm_14, bm_15, bm_16, bm_17, bm_18, bs_0, bs_1, bs_2, bs_3, bs_4, bs_5, bs_6, bs_7, bs_8, bs_9, bs_10, bs_11, bs_12, bs_13, bs_14, bs_15, bs_16, bs_17, bs_18, h13, ↓if_neg e, if_neg e, m_248 (show k < 80 by omega) T, s1]
  · intro a tl
    have e : Int32.ofNat (n) ≤ Int32.ofNat (n) := by rw [i32_le (by omega) (by omega)]; omega
    rw [D_317_4]
    simp -implicitDefEqProofs only [D_317_0, k_317_0, k_317_4, D_317_26, k_317_26, R_317, g_iconst, g_istore_n, v_iload_n, v_aload_n, g_getfield, sv_i, rf_s, g_icmp_ge, v_callV2, aft_v, aft_n, g_iadd, v_iinc, g_goto, g_ireturn, entL, getL, setL, kL_i, kL_r, isI_s, isR_s, isJ_s, gV_s, iV_i, cs0, cs1, cs2, cs3, cs4, dn_nil, kd_si, kd_sl, kd_sw, mr_si, mr_sl, mr_sw, ml_si, ml_sw, mi_sl, st_k T, st_r6 T, st_r7 T, st_r8 T, st_r9 T, st_r10 T, st_r11 T, st_r12 T, st_r13 T, st_k1 T, st_k2 T, st_k3 T, st_k4 T, st_k5 T, st_k6 T, st_ki T, st_i2 T, st_i3 T, st_i4 T, st_i5 T, st_i6 T, st_k8 T, st_k9 T, st_k10 T, st_k11 T, st_k12 T, st_kb T, st_b2 T, st_b3 T, st_b4 T, st_b5 T, st_b6 T, st_k14 T, st_k15 T, st_k16 T, st_k17 T, st_k18 T, kd_sb, mr_sb, ml_sb, bm_0, bm_1, bm_2, bm_3, bm_4, bm_5, bm_6, bm_7, bm_8, bm_9, bm_10, bm_11, bm_12, bm_13, bm_14, bm_15, bm_16, bm_17, bm_18, bs_0, bs_1, bs_2, bs_3, bs_4, bs_5, bs_6, bs_7, bs_8, bs_9, bs_10, bs_11, bs_12, bs_13, bs_14, bs_15, bs_16, bs_17, bs_18, h13, ↓if_pos e, if_pos e, retX_int]
theorem R_280 : PG.2.1 280 = (some .int) := rfl
def exO (R : Nat → Nat → Int32) (x : Int32) (k : Nat) (a : Int32) : Int32 := a + (if R 14 k = x then exF R k else 0)
theorem m_280 {b n : Nat} (hn : n ≤ 80) {x : Int32} {h : Mm} (T : ST h b) {R : Nat → Nat → Int32} (h13 : R 13 0 = Int32.ofNat n) : dM PG 280 [.ref (b + 13), .int x] (h.sb b R) = some (.inl (some (.int (fl (exO R x) n 0 0))), h.sb b R) := by
  rw [dM_of (Nat.le_of_ble_eq_true rfl)]
  simp -implicitDefEqProofs only [D_280_0, k_280_0, g_iconst, g_istore_n, entL, getL, setL, kL_i, kL_r, isI_s, isR_s, isJ_s, gV_s, iV_i, cs0, cs1, cs2, cs3, cs4, dn_nil, kd_si, kd_sl, kd_sw, mr_si, mr_sl, mr_sw, ml_si, ml_sw, mi_sl]
  refine lq (n := n) (f := exO R x) (L := fun k a tl => some (.ref (b + 13)) :: some (.int x) :: some (.int a) :: some (.int (Int32.ofNat k)) :: tl) (r := fun a => some (.inl (some (.int a)), h.sb b R)) ?_ ?_ n 0 0 [] (by omega)
  · intro k a tl hk
    refine ⟨tl, ?_⟩
    have e : ¬ Int32.ofNat (n) ≤ Int32.ofNat (k) := by rw [i32_le (by omega) (by omega)]; omega
    have s1 : Int32.ofNat (k) + 1 = Int32.ofNat (k + 1) := i32_add (b := 1)
    have b_1 : inb (Int32.ofNat (k)) 80 = true := inb_nat (by omega) (by decide)
    have n_1 : (Int32.ofNat (k)).toNatClampNeg = k := i32_nat (by omega)
    rw [D_280_4]
    unfold exO
    by_cases c : R 14 k = x
    · simp -implicitDefEqProofs only [D_280_0, k_280_0, k_280_4, D_280_30, k_280_30, D_280_36, k_280_36, R_280, g_iconst, g_istore_n, v_iload_n, v_aload_n, g_getfield, sv_i, rf_s, g_icmp_ge, sv_a, v_iaload, inI_0, g_icmp_ne, v_callV2, aft_v, aft_n, g_iadd, v_iinc, g_goto, g_ireturn, entL, getL, setL, kL_i, kL_r, isI_s, isR_s, isJ_s, gV_s, iV_i, cs0, cs1, cs2, cs3, cs4, dn_nil, kd_si, kd_sl, kd_sw, mr_si, mr_sl, mr_sw, ml_si, ml_sw, mi_sl, st_k T, st_r6 T, st_r7 T, st_r8 T, st_r9 T, st_r10 T, st_r11 T, st_r12 T, st_r13 T, st_k1 T, st_k2 T, st_k3 T, st_k4 T, st_k5 T, st_k6 T, st_ki T, st_i2 T, st_i3 T, st_i4 T, st_i5 T, st_i6 T, st_k8 T, st_k9 T, st_k10 T, st_k11 T, st_k12 T, st_kb T, st_b2 T, st_b3 T, st_b4 T, st_b5 T, st_b6 T, st_k14 T, st_k15 T, st_k16 T, st_k17 T, st_k18 T, kd_sb, mr_sb, ml_sb, bm_0, bm_1, bm_2, bm_3, bm_4, bm_5, bm_6, bm_7, bm_8, bm_9, bm_10, bm_11, bm_12, bm_13, bm_14, bm_15, bm_16, bm_17, bm_18, bs_0, bs_1, bs_2, bs_3, bs_4, bs_5, bs_6, bs_7, bs_8, bs_9, bs_10, bs_11, bs_12, bs_13, bs_14, bs_15, bs_16, bs_17, bs_18, h13, ↓if_neg e, if_neg e, b_1, n_1, ↓if_pos c, if_pos c, m_248 (show k < 80 by omega) T, s1]
    · simp -implicitDefEqProofs only [D_280_0, k_280_0, k_280_4, D_280_30, k_280_30, D_280_36, k_280_36, R_280, g_iconst, g_istore_n, v_iload_n, v_aload_n, g_getfield, sv_i, rf_s, g_icmp_ge, sv_a, v_iaload, inI_0, g_icmp_ne, v_callV2, aft_v, aft_n, g_iadd, v_iinc, g_goto, g_ireturn, entL, getL, setL, kL_i, kL_r, isI_s, isR_s, isJ_s, gV_s, iV_i, cs0, cs1, cs2, cs3, cs4, dn_nil, kd_si, kd_sl, kd_sw, mr_si, mr_sl, mr_sw, ml_si, ml_sw, mi_sl, st_k T, st_r6 T, st_r7 T, st_r8 T, st_r9 T, st_r10 T, st_r11 T, st_r12 T, st_r13 T, st_k1 T, st_k2 T, st_k3 T, st_k4 T, st_k5 T, st_k6 T, st_ki T, st_i2 T, st_i3 T, st_i4 T, st_i5 T, st_i6 T, st_k8 T, st_k9 T, st_k10 T, st_k11 T, st_k12 T, st_kb T, st_b2 T, st_b3 T, st_b4 T, st_b5 T, st_b6 T, st_k14 T, st_k15 T, st_k16 T, st_k17 T, st_k18 T, kd_sb, mr_sb, ml_sb, bm_0, bm_1, bm_2, bm_3, bm_4, bm_5, bm_6, bm_7, bm_8, bm_9, bm_10, bm_11, bm_12, bm_13, bm_14, bm_15, bm_16, bm_17, bm_18, bs_0, bs_1, bs_2, bs_3, bs_4, bs_5, bs_6, bs_7, bs_8, bs_9, bs_10, bs_11, bs_12, bs_13, bs_14, bs_15, bs_16, bs_17, bs_18, h13, ↓if_neg e, if_neg e, b_1, n_1, ↓if_neg c, if_neg c, Int32.add_zero, s1]
  · intro a tl
    have e : Int32.ofNat (n) ≤ Int32.ofNat (n) := by rw [i32_le (by omega) (by omega)]; omega
    rw [D_280_4]
    simp -implicitDefEqProofs only [D_280_0, k_280_0, k_280_4, D_280_30, k_280_30, D_280_36, k_280_36, R_280, g_iconst, g_istore_n, v_iload_n, v_aload_n, g_getfield, sv_i, rf_s, g_icmp_ge, sv_a, v_iaload, inI_0, g_icmp_ne, v_callV2, aft_v, aft_n, g_iadd, v_iinc, g_goto, g_ireturn, entL, getL, setL, kL_i, kL_r, isI_s, isR_s, isJ_s, gV_s, iV_i, cs0, cs1, cs2, cs3, cs4, dn_nil, kd_si, kd_sl, kd_sw, mr_si, mr_sl, mr_sw, ml_si, ml_sw, mi_sl, st_k T, st_r6 T, st_r7 T, st_r8 T, st_r9 T, st_r10 T, st_r11 T, st_r12 T, st_r13 T, st_k1 T, st_k2 T, st_k3 T, st_k4 T, st_k5 T, st_k6 T, st_ki T, st_i2 T, st_i3 T, st_i4 T, st_i5 T, st_i6 T, st_k8 T, st_k9 T, st_k10 T, st_k11 T, st_k12 T, st_kb T, st_b2 T, st_b3 T, st_b4 T, st_b5 T, st_b6 T, st_k14 T, st_k15 T, st_k16 T, st_k17 T, st_k18 T, kd_sb, mr_sb, ml_sb, bm_0, bm_1, bm_2, bm_3, bm_4, bm_5, bm_6, bm_7, bm_8, bm_9, bm_10, bm_11, bm_12, bm_13, bm_14, bm_15, bm_16, bm_17, bm_18, bs_0, bs_1, bs_2, bs_3, bs_4, bs_5, bs_6, bs_7, bs_8, bs_9, bs_10, bs_11, bs_12, bs_13, bs_14, bs_15, bs_16, bs_17, bs_18, h13, ↓if_pos e, if_pos e, retX_int]
theorem R_279 : PG.2.1 279 = (some .int) := rfl
def cnO (R : Nat → Nat → Int32) (x : Int32) (k : Nat) (a : Int32) : Int32 := a + (if R 14 k = x then 1 else 0)
theorem m_279 {b n : Nat} (hn : n ≤ 80) {x : Int32} {h : Mm} (T : ST h b) {R : Nat → Nat → Int32} (h13 : R 13 0 = Int32.ofNat n) : dM PG 279 [.ref (b + 13), .int x] (h.sb b R) = some (.inl (some (.int (fl (cnO R x) n 0 0))), h.sb b R) := by
  rw [dM_of (Nat.le_of_ble_eq_true rfl)]
  simp -implicitDefEqProofs only [D_279_0, k_279_0, g_iconst, g_istore_n, entL, getL, setL, kL_i, kL_r, isI_s, isR_s, isJ_s, gV_s, iV_i, cs0, cs1, cs2, cs3, cs4, dn_nil, kd_si, kd_sl, kd_sw, mr_si, mr_sl, mr_sw, ml_si, ml_sw, mi_sl]
  refine lq (n := n) (f := cnO R x) (L := fun k a tl => some (.ref (b + 13)) :: some (.int x) :: some (.int a) :: some (.int (Int32.ofNat k)) :: tl) (r := fun a => some (.inl (some (.int a)), h.sb b R)) ?_ ?_ n 0 0 [] (by omega)
  · intro k a tl hk
    refine ⟨tl, ?_⟩
    have e : ¬ Int32.ofNat (n) ≤ Int32.ofNat (k) := by rw [i32_le (by omega) (by omega)]; omega
    have s1 : Int32.ofNat (k) + 1 = Int32.ofNat (k + 1) := i32_add (b := 1)
    have b_1 : inb (Int32.ofNat (k)) 80 = true := inb_nat (by omega) (by decide)
    have n_1 : (Int32.ofNat (k)).toNatClampNeg = k := i32_nat (by omega)
    rw [D_279_4]
    unfold cnO
    by_cases c : R 14 k = x
    · simp -implicitDefEqProofs only [D_279_0, k_279_0, k_279_4, D_279_25, k_279_25, D_279_31, k_279_31, R_279, g_iconst, g_istore_n, v_iload_n, v_aload_n, g_getfield, sv_i, rf_s, g_icmp_ge, sv_a, v_iaload, inI_0, g_icmp_ne, v_iinc, g_goto, g_ireturn, entL, getL, setL, kL_i, kL_r, isI_s, isR_s, isJ_s, gV_s, iV_i, cs0, cs1, cs2, cs3, cs4, dn_nil, kd_si, kd_sl, kd_sw, mr_si, mr_sl, mr_sw, ml_si, ml_sw, mi_sl, st_k T, st_r6 T, st_r7 T, st_r8 T, st_r9 T, st_r10 T, st_r11 T, st_r12 T, st_r13 T, st_k1 T, st_k2 T, st_k3 T, st_k4 T, st_k5 T, st_k6 T, st_ki T, st_i2 T, st_i3 T, st_i4 T, st_i5 T, st_i6 T, st_k8 T, st_k9 T, st_k10 T, st_k11 T, st_k12 T, st_kb T, st_b2 T, st_b3 T, st_b4 T, st_b5 T, st_b6 T, st_k14 T, st_k15 T, st_k16 T, st_k17 T, st_k18 T, kd_sb, mr_sb, ml_sb, bm_0, bm_1, bm_2, bm_3, bm_4, bm_5, bm_6, bm_7, bm_8, bm_9, bm_10, bm_11, bm_12, bm_13, bm_14, bm_15, bm_16, bm_17, bm_18, bs_0, bs_1, bs_2, bs_3, bs_4, bs_5, bs_6, bs_7, bs_8, bs_9, bs_10, bs_11, bs_12, bs_13, bs_14, bs_15, bs_16, bs_17, bs_18, h13, ↓if_neg e, if_neg e, b_1, n_1, ↓if_pos c, if_pos c, s1]
    · simp -implicitDefEqProofs only [D_279_0, k_279_0, k_279_4, D_279_25, k_279_25, D_279_31, k_279_31, R_279, g_iconst, g_istore_n, v_iload_n, v_aload_n, g_getfield, sv_i, rf_s, g_icmp_ge, sv_a, v_iaload, inI_0, g_icmp_ne, v_iinc, g_goto, g_ireturn, entL, getL, setL, kL_i, kL_r, isI_s, isR_s, isJ_s, gV_s, iV_i, cs0, cs1, cs2, cs3, cs4, dn_nil, kd_si, kd_sl, kd_sw, mr_si, mr_sl, mr_sw, ml_si, ml_sw, mi_sl, st_k T, st_r6 T, st_r7 T, st_r8 T, st_r9 T, st_r10 T, st_r11 T, st_r12 T, st_r13 T, st_k1 T, st_k2 T, st_k3 T, st_k4 T, st_k5 T, st_k6 T, st_ki T, st_i2 T, st_i3 T, st_i4 T, st_i5 T, st_i6 T, st_k8 T, st_k9 T, st_k10 T, st_k11 T, st_k12 T, st_kb T, st_b2 T, st_b3 T, st_b4 T, st_b5 T, st_b6 T, st_k14 T, st_k15 T, st_k16 T, st_k17 T, st_k18 T, kd_sb, mr_sb, ml_sb, bm_0, bm_1, bm_2, bm_3, bm_4, bm_5, bm_6, bm_7, bm_8, bm_9, bm_10, bm_11, bm_12, bm_13, bm_14, bm_15, bm_16, bm_17, bm_18, bs_0, bs_1, bs_2, bs_3, bs_4, bs_5, bs_6, bs_7, bs_8, bs_9, bs_10, bs_11, bs_12, bs_13, bs_14, bs_15, bs_16, bs_17, bs_18, h13, ↓if_neg e, if_neg e, b_1, n_1, ↓if_neg c, if_neg c, Int32.add_zero, s1]
  · intro a tl
    have e : Int32.ofNat (n) ≤ Int32.ofNat (n) := by rw [i32_le (by omega) (by omega)]; omega
    rw [D_279_4]
    simp -implicitDefEqProofs only [D_279_0, k_279_0, k_279_4, D_279_25, k_279_25, D_279_31, k_279_31, R_279, g_iconst, g_istore_n, v_iload_n, v_aload_n, g_getfield, sv_i, rf_s, g_icmp_ge, sv_a, v_iaload, inI_0, g_icmp_ne, v_iinc, g_goto, g_ireturn, entL, getL, setL, kL_i, kL_r, isI_s, isR_s, isJ_s, gV_s, iV_i, cs0, cs1, cs2, cs3, cs4, dn_nil, kd_si, kd_sl, kd_sw, mr_si, mr_sl, mr_sw, ml_si, ml_sw, mi_sl, st_k T, st_r6 T, st_r7 T, st_r8 T, st_r9 T, st_r10 T, st_r11 T, st_r12 T, st_r13 T, st_k1 T, st_k2 T, st_k3 T, st_k4 T, st_k5 T, st_k6 T, st_ki T, st_i2 T, st_i3 T, st_i4 T, st_i5 T, st_i6 T, st_k8 T, st_k9 T, st_k10 T, st_k11 T, st_k12 T, st_kb T, st_b2 T, st_b3 T, st_b4 T, st_b5 T, st_b6 T, st_k14 T, st_k15 T, st_k16 T, st_k17 T, st_k18 T, kd_sb, mr_sb, ml_sb, bm_0, bm_1, bm_2, bm_3, bm_4, bm_5, bm_6, bm_7, bm_8, bm_9, bm_10, bm_11, bm_12, bm_13, bm_14, bm_15, bm_16, bm_17, bm_18, bs_0, bs_1, bs_2, bs_3, bs_4, bs_5, bs_6, bs_7, bs_8, bs_9, bs_10, bs_11, bs_12, bs_13, bs_14, bs_15, bs_16, bs_17, bs_18, h13, ↓if_pos e, if_pos e, retX_int]
theorem R_322 : PG.2.1 322 = (some .int) := rfl
def worB (R : Nat → Nat → Int32) (j k : Nat) : Bool := decide (exF R j < exF R k) || (decide (exF R k = exF R j) && decide (k < j))
def worN (R : Nat → Nat → Int32) (n j : Nat) : Int32 := fl (fun k a => a + b2i (worB R j k)) n 0 0
theorem m_322 {b j n : Nat} (hj : j < n) (hn : n ≤ 80) {h : Mm} (T : ST h b) {R : Nat → Nat → Int32} (h13 : R 13 0 = Int32.ofNat n) : dM PG 322 [.ref (b + 13), .int (Int32.ofNat j)] (h.sb b R) = some (.inl (some (.int (worN R n j))), h.sb b R) := by
  rw [dM_of (Nat.le_of_ble_eq_true rfl)]
  simp -implicitDefEqProofs only [D_322_0, k_322_0, g_iconst, g_istore_n, entL, getL, setL, kL_i, kL_r, isI_s, isR_s, isJ_s, gV_s, iV_i, cs0, cs1, cs2, cs3, cs4, dn_nil, kd_si, kd_sl, kd_sw, mr_si, mr_sl, mr_sw, ml_si, ml_sw, mi_sl]
  refine lq (n := n) (f := fun k a => a + b2i (worB R j k)) (L := fun k a tl => some (.ref (b + 13)) :: some (.int (Int32.ofNat j)) :: some (.int a) :: some (.int (Int32.ofNat k)) :: tl) (r := fun a => some (.inl (some (.int a)), h.sb b R)) ?_ ?_ n 0 0 [] (by omega)
  · intro k a tl hk
    refine ⟨tl, ?_⟩
    have e : ¬ Int32.ofNat (n) ≤ Int32.ofNat (k) := by rw [i32_le (by omega) (by omega)]; omega
    have s1 : Int32.ofNat (k) + 1 = Int32.ofNat (k + 1) := i32_add (b := 1)
    have g1 := m_248 (b := b) (k := k) (show k < 80 by omega) T (R := R)
    have g2 := m_248 (b := b) (k := j) (show j < 80 by omega) T (R := R)
    rw [D_322_4]
    by_cases c : exF R j < exF R k
    · have z : b2i (worB R j k) = 1 := by unfold worB; rw [decide_eq_true c]; rfl
      simp -implicitDefEqProofs only [D_322_0, k_322_0, k_322_4, D_322_43, k_322_43, D_322_46, k_322_46, D_322_52, k_322_52, R_322, g_iconst, g_istore_n, v_iload_n, v_aload_n, g_getfield, sv_i, rf_s, g_icmp_ge, v_callV2, aft_v, aft_n, g_icmp_gt, g_icmp_ne, v_iinc, g_goto, g_ireturn, entL, getL, setL, kL_i, kL_r, isI_s, isR_s, isJ_s, gV_s, iV_i, cs0, cs1, cs2, cs3, cs4, dn_nil, kd_si, kd_sl, kd_sw, mr_si, mr_sl, mr_sw, ml_si, ml_sw, mi_sl, st_k T, st_r6 T, st_r7 T, st_r8 T, st_r9 T, st_r10 T, st_r11 T, st_r12 T, st_r13 T, st_k1 T, st_k2 T, st_k3 T, st_k4 T, st_k5 T, st_k6 T, st_ki T, st_i2 T, st_i3 T, st_i4 T, st_i5 T, st_i6 T, st_k8 T, st_k9 T, st_k10 T, st_k11 T, st_k12 T, st_kb T, st_b2 T, st_b3 T, st_b4 T, st_b5 T, st_b6 T, st_k14 T, st_k15 T, st_k16 T, st_k17 T, st_k18 T, kd_sb, mr_sb, ml_sb, bm_0, bm_1, bm_2, bm_3, bm_4, bm_5, bm_6, bm_7, bm_8, bm_9, bm_10, bm_11, bm_12, bm_13, bm_14, bm_15, bm_16, bm_17, bm_18, bs_0, bs_1, bs_2, bs_3, bs_4, bs_5, bs_6, bs_7, bs_8, bs_9, bs_10, bs_11, bs_12, bs_13, bs_14, bs_15, bs_16, bs_17, bs_18, h13, ↓if_neg e, if_neg e, g1, g2, ↓if_pos c, if_pos c, z, s1]
    · by_cases c2 : exF R k = exF R j
      · by_cases c3 : k < j
        · have z : b2i (worB R j k) = 1 := by unfold worB; rw [decide_eq_false c, decide_eq_true c2, decide_eq_true c3]; rfl
          have e3 : ¬ Int32.ofNat (j) ≤ Int32.ofNat (k) := by rw [i32_le (by omega) (by omega)]; omega
          simp -implicitDefEqProofs only [D_322_0, k_322_0, k_322_4, D_322_43, k_322_43, D_322_46, k_322_46, D_322_52, k_322_52, R_322, g_iconst, g_istore_n, v_iload_n, v_aload_n, g_getfield, sv_i, rf_s, g_icmp_ge, v_callV2, aft_v, aft_n, g_icmp_gt, g_icmp_ne, v_iinc, g_goto, g_ireturn, entL, getL, setL, kL_i, kL_r, isI_s, isR_s, isJ_s, gV_s, iV_i, cs0, cs1, cs2, cs3, cs4, dn_nil, kd_si, kd_sl, kd_sw, mr_si, mr_sl, mr_sw, ml_si, ml_sw, mi_sl, st_k T, st_r6 T, st_r7 T, st_r8 T, st_r9 T, st_r10 T, st_r11 T, st_r12 T, st_r13 T, st_k1 T, st_k2 T, st_k3 T, st_k4 T, st_k5 T, st_k6 T, st_ki T, st_i2 T, st_i3 T, st_i4 T, st_i5 T, st_i6 T, st_k8 T, st_k9 T, st_k10 T, st_k11 T, st_k12 T, st_kb T, st_b2 T, st_b3 T, st_b4 T, st_b5 T, st_b6 T, st_k14 T, st_k15 T, st_k16 T, st_k17 T, st_k18 T, kd_sb, mr_sb, ml_sb, bm_0, bm_1, bm_2, bm_3, bm_4, bm_5, bm_6, bm_7, bm_8, bm_9, bm_10, bm_11, bm_12, bm_13, bm_14, bm_15, bm_16, bm_17, bm_18, bs_0, bs_1, bs_2, bs_3, bs_4, bs_5, bs_6, bs_7, bs_8, bs_9, bs_10, bs_11, bs_12, bs_13, bs_14, bs_15, bs_16, bs_17, bs_18, h13, ↓if_neg e, if_neg e, g1, g2, ↓if_neg c, if_neg c, ↓if_pos c2, if_pos c2, ↓if_neg e3, if_neg e3, z, s1]
        · have z : b2i (worB R j k) = 0 := by unfold worB; rw [decide_eq_false c, decide_eq_false c3, Bool.and_false]; rfl
          have e3 : Int32.ofNat (j) ≤ Int32.ofNat (k) := by rw [i32_le (by omega) (by omega)]; omega
          simp -implicitDefEqProofs only [D_322_0, k_322_0, k_322_4, D_322_43, k_322_43, D_322_46, k_322_46, D_322_52, k_322_52, R_322, g_iconst, g_istore_n, v_iload_n, v_aload_n, g_getfield, sv_i, rf_s, g_icmp_ge, v_callV2, aft_v, aft_n, g_icmp_gt, g_icmp_ne, v_iinc, g_goto, g_ireturn, entL, getL, setL, kL_i, kL_r, isI_s, isR_s, isJ_s, gV_s, iV_i, cs0, cs1, cs2, cs3, cs4, dn_nil, kd_si, kd_sl, kd_sw, mr_si, mr_sl, mr_sw, ml_si, ml_sw, mi_sl, st_k T, st_r6 T, st_r7 T, st_r8 T, st_r9 T, st_r10 T, st_r11 T, st_r12 T, st_r13 T, st_k1 T, st_k2 T, st_k3 T, st_k4 T, st_k5 T, st_k6 T, st_ki T, st_i2 T, st_i3 T, st_i4 T, st_i5 T, st_i6 T, st_k8 T, st_k9 T, st_k10 T, st_k11 T, st_k12 T, st_kb T, st_b2 T, st_b3 T, st_b4 T, st_b5 T, st_b6 T, st_k14 T, st_k15 T, st_k16 T, st_k17 T, st_k18 T, kd_sb, mr_sb, ml_sb, bm_0, bm_1, bm_2, bm_3, bm_4, bm_5, bm_6, bm_7, bm_8, bm_9, bm_10, bm_11, bm_12, bm_13, bm_14, bm_15, bm_16, bm_17, bm_18, bs_0, bs_1, bs_2, bs_3, bs_4, bs_5, bs_6, bs_7, bs_8, bs_9, bs_10, bs_11, bs_12, bs_13, bs_14, bs_15, bs_16, bs_17, bs_18, h13, ↓if_neg e, if_neg e, g1, g2, ↓if_neg c, if_neg c, ↓if_pos c2, if_pos c2, ↓if_pos e3, if_pos e3, z, Int32.add_zero, s1]
      · have z : b2i (worB R j k) = 0 := by unfold worB; rw [decide_eq_false c, decide_eq_false c2]; rfl
        simp -implicitDefEqProofs only [D_322_0, k_322_0, k_322_4, D_322_43, k_322_43, D_322_46, k_322_46, D_322_52, k_322_52, R_322, g_iconst, g_istore_n, v_iload_n, v_aload_n, g_getfield, sv_i, rf_s, g_icmp_ge, v_callV2, aft_v, aft_n, g_icmp_gt, g_icmp_ne, v_iinc, g_goto, g_ireturn, entL, getL, setL, kL_i, kL_r, isI_s, isR_s, isJ_s, gV_s, iV_i, cs0, cs1, cs2, cs3, cs4, dn_nil, kd_si, kd_sl, kd_sw, mr_si, mr_sl, mr_sw, ml_si, ml_sw, mi_sl, st_k T, st_r6 T, st_r7 T, st_r8 T, st_r9 T, st_r10 T, st_r11 T, st_r12 T, st_r13 T, st_k1 T, st_k2 T, st_k3 T, st_k4 T, st_k5 T, st_k6 T, st_ki T, st_i2 T, st_i3 T, st_i4 T, st_i5 T, st_i6 T, st_k8 T, st_k9 T, st_k10 T, st_k11 T, st_k12 T, st_kb T, st_b2 T, st_b3 T, st_b4 T, st_b5 T, st_b6 T, st_k14 T, st_k15 T, st_k16 T, st_k17 T, st_k18 T, kd_sb, mr_sb, ml_sb, bm_0, bm_1, bm_2, bm_3, bm_4, bm_5, bm_6, bm_7, bm_8, bm_9, bm_10, bm_11, bm_12, bm_13, bm_14, bm_15, bm_16, bm_17, bm_18, bs_0, bs_1, bs_2, bs_3, bs_4, bs_5, bs_6, bs_7, bs_8, bs_9, bs_10, bs_11, bs_12, bs_13, bs_14, bs_15, bs_16, bs_17, bs_18, h13, ↓if_neg e, if_neg e, g1, g2, ↓if_neg c, if_neg c, ↓if_neg c2, if_neg c2, z, Int32.add_zero, s1]
  · intro a tl
    have e : Int32.ofNat (n) ≤ Int32.ofNat (n) := by rw [i32_le (by omega) (by omega)]; omega
    rw [D_322_4]
    simp -implicitDefEqProofs only [D_322_0, k_322_0, k_322_4, D_322_43, k_322_43, D_322_46, k_322_46, D_322_52, k_322_52, R_322, g_iconst, g_istore_n, v_iload_n, v_aload_n, g_getfield, sv_i, rf_s, g_icmp_ge, v_callV2, aft_v, aft_n, g_icmp_gt, g_icmp_ne, v_iinc, g_goto, g_ireturn, entL, getL, setL, kL_i, kL_r, isI_s, isR_s, isJ_s, gV_s, iV_i, cs0, cs1, cs2, cs3, cs4, dn_nil, kd_si, kd_sl, kd_sw, mr_si, mr_sl, mr_sw, ml_si, ml_sw, mi_sl, st_k T, st_r6 T, st_r7 T, st_r8 T, st_r9 T, st_r10 T, st_r11 T, st_r12 T, st_r13 T, st_k1 T, st_k2 T, st_k3 T, st_k4 T, st_k5 T, st_k6 T, st_ki T, st_i2 T, st_i3 T, st_i4 T, st_i5 T, st_i6 T, st_k8 T, st_k9 T, st_k10 T, st_k11 T, st_k12 T, st_kb T, st_b2 T, st_b3 T, st_b4 T, st_b5 T, st_b6 T, st_k14 T, st_k15 T, st_k16 T, st_k17 T, st_k18 T, kd_sb, mr_sb, ml_sb, bm_0, bm_1, bm_2, bm_3, bm_4, bm_5, bm_6, bm_7, bm_8, bm_9, bm_10, bm_11, bm_12, bm_13, bm_14, bm_15, bm_16, bm_17, bm_18, bs_0, bs_1, bs_2, bs_3, bs_4, bs_5, bs_6, bs_7, bs_8, bs_9, bs_10, bs_11, bs_12, bs_13, bs_14, bs_15, bs_16, bs_17, bs_18, h13, ↓if_pos e, if_pos e, retX_int]
theorem R_284 : PG.2.1 284 = (some .int) := rfl
theorem m_284 {b n : Nat} (hn : n ≤ 80) {x : Int32} {h : Mm} (T : ST h b) {R : Nat → Nat → Int32} (h13 : R 13 0 = Int32.ofNat n) : dM PG 284 [.ref (b + 13), .int x] (h.sb b R) = some (.inl (some (.int (oN (fnd (fun j => decide (worN R n j = x)) n 0)))), h.sb b R) := by
  rw [dM_of (Nat.le_of_ble_eq_true rfl)]
  simp -implicitDefEqProofs only [D_284_0, k_284_0, g_iconst, g_istore_n, entL, getL, setL, kL_i, kL_r, isI_s, isR_s, isJ_s, gV_s, iV_i, cs0, cs1, cs2, cs3, cs4, dn_nil, kd_si, kd_sl, kd_sw, mr_si, mr_sl, mr_sw, ml_si, ml_sw, mi_sl]
  refine lf (n := n) (p := fun j => decide (worN R n j = x)) (L := fun k tl => some (.ref (b + 13)) :: some (.int x) :: some (.int (Int32.ofNat k)) :: tl) (r := fun o => some (.inl (some (.int (oN o))), h.sb b R)) ?_ ?_ ?_ n 0 [] (by omega)
  · intro k tl hk c
    have c2 : ¬ worN R n k = x := of_decide_eq_false c
    refine ⟨tl, ?_⟩
    have e : ¬ Int32.ofNat (n) ≤ Int32.ofNat (k) := by rw [i32_le (by omega) (by omega)]; omega
    have s1 : Int32.ofNat (k) + 1 = Int32.ofNat (k + 1) := i32_add (b := 1)
    rw [D_284_2]
    simp -implicitDefEqProofs only [D_284_0, k_284_0, k_284_2, D_284_21, k_284_21, D_284_27, k_284_27, R_284, g_iconst, g_istore_n, v_iload_n, v_aload_n, g_getfield, sv_i, rf_s, g_icmp_ge, v_callV2, aft_v, aft_n, g_icmp_ne, g_ireturn, v_iinc, g_goto, entL, getL, setL, kL_i, kL_r, isI_s, isR_s, isJ_s, gV_s, iV_i, cs0, cs1, cs2, cs3, cs4, dn_nil, kd_si, kd_sl, kd_sw, mr_si, mr_sl, mr_sw, ml_si, ml_sw, mi_sl, st_k T, st_r6 T, st_r7 T, st_r8 T, st_r9 T, st_r10 T, st_r11 T, st_r12 T, st_r13 T, st_k1 T, st_k2 T, st_k3 T, st_k4 T, st_k5 T, st_k6 T, st_ki T, st_i2 T, st_i3 T, st_i4 T, st_i5 T, st_i6 T, st_k8 T, st_k9 T, st_k10 T, st_k11 T, st_k12 T, st_kb T, st_b2 T, st_b3 T, st_b4 T, st_b5 T, st_b6 T, st_k14 T, st_k15 T, st_k16 T, st_k17 T, st_k18 T, kd_sb, mr_sb, ml_sb, bm_0, bm_1, bm_2, bm_3, bm_4, bm_5, bm_6, bm_7, bm_8, bm_9, bm_10, bm_11, bm_12, bm_13, bm_14, bm_15, bm_16, bm_17, bm_18, bs_0, bs_1, bs_2, bs_3, bs_4, bs_5, bs_6, bs_7, bs_8, bs_9, bs_10, bs_11, bs_12, bs_13, bs_14, bs_15, bs_16, bs_17, bs_18, h13, ↓if_neg e, if_neg e, m_322 hk hn T h13, ↓if_neg c2, if_neg c2, s1]
  · intro k tl hk c
    have c2 : worN R n k = x := of_decide_eq_true c
    have e : ¬ Int32.ofNat (n) ≤ Int32.ofNat (k) := by rw [i32_le (by omega) (by omega)]; omega
    rw [D_284_2]
    simp -implicitDefEqProofs only [D_284_0, k_284_0, k_284_2, D_284_21, k_284_21, D_284_27, k_284_27, R_284, g_iconst, g_istore_n, v_iload_n, v_aload_n, g_getfield, sv_i, rf_s, g_icmp_ge, v_callV2, aft_v, aft_n, g_icmp_ne, g_ireturn, v_iinc, g_goto, entL, getL, setL, kL_i, kL_r, isI_s, isR_s, isJ_s, gV_s, iV_i, cs0, cs1, cs2, cs3, cs4, dn_nil, kd_si, kd_sl, kd_sw, mr_si, mr_sl, mr_sw, ml_si, ml_sw, mi_sl, st_k T, st_r6 T, st_r7 T, st_r8 T, st_r9 T, st_r10 T, st_r11 T, st_r12 T, st_r13 T, st_k1 T, st_k2 T, st_k3 T, st_k4 T, st_k5 T, st_k6 T, st_ki T, st_i2 T, st_i3 T, st_i4 T, st_i5 T, st_i6 T, st_k8 T, st_k9 T, st_k10 T, st_k11 T, st_k12 T, st_kb T, st_b2 T, st_b3 T, st_b4 T, st_b5 T, st_b6 T, st_k14 T, st_k15 T, st_k16 T, st_k17 T, st_k18 T, kd_sb, mr_sb, ml_sb, bm_0, bm_1, bm_2, bm_3, bm_4, bm_5, bm_6, bm_7, bm_8, bm_9, bm_10, bm_11, bm_12, bm_13, bm_14, bm_15, bm_16, bm_17, bm_18, bs_0, bs_1, bs_2, bs_3, bs_4, bs_5, bs_6, bs_7, bs_8, bs_9, bs_10, bs_11, bs_12, bs_13, bs_14, bs_15, bs_16, bs_17, bs_18, h13, ↓if_neg e, if_neg e, m_322 hk hn T h13, ↓if_pos c2, if_pos c2, retX_int]
    rfl
  · intro tl
    have e : Int32.ofNat (n) ≤ Int32.ofNat (n) := by rw [i32_le (by omega) (by omega)]; omega
    rw [D_284_2]
    simp -implicitDefEqProofs only [D_284_0, k_284_0, k_284_2, D_284_21, k_284_21, D_284_27, k_284_27, R_284, g_iconst, g_istore_n, v_iload_n, v_aload_n, g_getfield, sv_i, rf_s, g_icmp_ge, v_callV2, aft_v, aft_n, g_icmp_ne, g_ireturn, v_iinc, g_goto, entL, getL, setL, kL_i, kL_r, isI_s, isR_s, isJ_s, gV_s, iV_i, cs0, cs1, cs2, cs3, cs4, dn_nil, kd_si, kd_sl, kd_sw, mr_si, mr_sl, mr_sw, ml_si, ml_sw, mi_sl, st_k T, st_r6 T, st_r7 T, st_r8 T, st_r9 T, st_r10 T, st_r11 T, st_r12 T, st_r13 T, st_k1 T, st_k2 T, st_k3 T, st_k4 T, st_k5 T, st_k6 T, st_ki T, st_i2 T, st_i3 T, st_i4 T, st_i5 T, st_i6 T, st_k8 T, st_k9 T, st_k10 T, st_k11 T, st_k12 T, st_kb T, st_b2 T, st_b3 T, st_b4 T, st_b5 T, st_b6 T, st_k14 T, st_k15 T, st_k16 T, st_k17 T, st_k18 T, kd_sb, mr_sb, ml_sb, bm_0, bm_1, bm_2, bm_3, bm_4, bm_5, bm_6, bm_7, bm_8, bm_9, bm_10, bm_11, bm_12, bm_13, bm_14, bm_15, bm_16, bm_17, bm_18, bs_0, bs_1, bs_2, bs_3, bs_4, bs_5, bs_6, bs_7, bs_8, bs_9, bs_10, bs_11, bs_12, bs_13, bs_14, bs_15, bs_16, bs_17, bs_18, h13, ↓if_pos e, if_pos e, retX_int]
    rfl
theorem R_318 : PG.2.1 318 = (some .boolean) := rfl
def gLB (due t : Int32) (R : Nat → Nat → Int32) (j : Nat) : Bool := decide (R 17 j + due < (if R 18 j = -1 then t else R 18 j))
theorem m_318 {b j : Nat} (hj : j < 80) {due t : Int32} {h : Mm} (T : ST h b) {R : Nat → Nat → Int32} : dM PG 318 [.ref (b + 13), .int (Int32.ofNat j), .int due, .int t] (h.sb b R) = some (.inl (some (.int (b2i (gLB due t R j)))), h.sb b R) := by
  rw [dM_of (Nat.le_of_ble_eq_true rfl)]
  have b_1 : inb (Int32.ofNat (j)) 80 = true := inb_nat (by omega) (by decide)
  have n_1 : (Int32.ofNat (j)).toNatClampNeg = j := i32_nat (by omega)
  by_cases w : R 18 j = -1
  · by_cases c : R 17 j + due < t
    · have z : b2i (gLB due t R j) = 1 := by unfold gLB; rw [if_pos w, decide_eq_true c]; rfl
      have c2 : ¬ t ≤ R 17 j + due := Int32.not_le.mpr c
      rw [z]
      simp -implicitDefEqProofs only [D_318_0, k_318_0, D_318_14, k_318_14, D_318_20, k_318_20, D_318_39, k_318_39, D_318_40, k_318_40, R_318, v_aload_n, g_getfield, sv_a, rf_s, v_iload_n, v_iaload, inI_0, g_iconst, g_icmp_ne, g_goto, g_istore, v_iload, g_iadd, g_icmp_le, g_ireturn, entL, getL, setL, kL_i, kL_r, isI_s, isR_s, isJ_s, gV_s, iV_i, cs0, cs1, cs2, cs3, cs4, dn_nil, kd_si, kd_sl, kd_sw, mr_si, mr_sl, mr_sw, ml_si, ml_sw, mi_sl, st_k T, st_r6 T, st_r7 T, st_r8 T, st_r9 T, st_r10 T, st_r11 T, st_r12 T, st_r13 T, st_k1 T, st_k2 T, st_k3 T, st_k4 T, st_k5 T, st_k6 T, st_ki T, st_i2 T, st_i3 T, st_i4 T, st_i5 T, st_i6 T, st_k8 T, st_k9 T, st_k10 T, st_k11 T, st_k12 T, st_kb T, st_b2 T, st_b3 T, st_b4 T, st_b5 T, st_b6 T, st_k14 T, st_k15 T, st_k16 T, st_k17 T, st_k18 T, kd_sb, mr_sb, ml_sb, bm_0, bm_1, bm_2, bm_3, bm_4, bm_5, bm_6, bm_7, bm_8, bm_9, bm_10, bm_11, bm_12, bm_13, bm_14, bm_15, bm_16, bm_17, bm_18, bs_0, bs_1, bs_2, bs_3, bs_4, bs_5, bs_6, bs_7, bs_8, bs_9, bs_10, bs_11, bs_12, bs_13, bs_14, bs_15, bs_16, bs_17, bs_18, b_1, n_1, ↓if_pos w, if_pos w, ↓if_neg c2, if_neg c2, rX_1]
    · have z : b2i (gLB due t R j) = 0 := by unfold gLB; rw [if_pos w, decide_eq_false c]; rfl
      have c2 : t ≤ R 17 j + due := Int32.not_lt.mp c
      rw [z]
      simp -implicitDefEqProofs only [D_318_0, k_318_0, D_318_14, k_318_14, D_318_20, k_318_20, D_318_39, k_318_39, D_318_40, k_318_40, R_318, v_aload_n, g_getfield, sv_a, rf_s, v_iload_n, v_iaload, inI_0, g_iconst, g_icmp_ne, g_goto, g_istore, v_iload, g_iadd, g_icmp_le, g_ireturn, entL, getL, setL, kL_i, kL_r, isI_s, isR_s, isJ_s, gV_s, iV_i, cs0, cs1, cs2, cs3, cs4, dn_nil, kd_si, kd_sl, kd_sw, mr_si, mr_sl, mr_sw, ml_si, ml_sw, mi_sl, st_k T, st_r6 T, st_r7 T, st_r8 T, st_r9 T, st_r10 T, st_r11 T, st_r12 T, st_r13 T, st_k1 T, st_k2 T, st_k3 T, st_k4 T, st_k5 T, st_k6 T, st_ki T, st_i2 T, st_i3 T, st_i4 T, st_i5 T, st_i6 T, st_k8 T, st_k9 T, st_k10 T, st_k11 T, st_k12 T, st_kb T, st_b2 T, st_b3 T, st_b4 T, st_b5 T, st_b6 T, st_k14 T, st_k15 T, st_k16 T, st_k17 T, st_k18 T, kd_sb, mr_sb, ml_sb, bm_0, bm_1, bm_2, bm_3, bm_4, bm_5, bm_6, bm_7, bm_8, bm_9, bm_10, bm_11, bm_12, bm_13, bm_14, bm_15, bm_16, bm_17, bm_18, bs_0, bs_1, bs_2, bs_3, bs_4, bs_5, bs_6, bs_7, bs_8, bs_9, bs_10, bs_11, bs_12, bs_13, bs_14, bs_15, bs_16, bs_17, bs_18, b_1, n_1, ↓if_pos w, if_pos w, ↓if_pos c2, if_pos c2, rX_0]
  · by_cases c : R 17 j + due < R 18 j
    · have z : b2i (gLB due t R j) = 1 := by unfold gLB; rw [if_neg w, decide_eq_true c]; rfl
      have c2 : ¬ R 18 j ≤ R 17 j + due := Int32.not_le.mpr c
      rw [z]
      simp -implicitDefEqProofs only [D_318_0, k_318_0, D_318_14, k_318_14, D_318_20, k_318_20, D_318_39, k_318_39, D_318_40, k_318_40, R_318, v_aload_n, g_getfield, sv_a, rf_s, v_iload_n, v_iaload, inI_0, g_iconst, g_icmp_ne, g_goto, g_istore, v_iload, g_iadd, g_icmp_le, g_ireturn, entL, getL, setL, kL_i, kL_r, isI_s, isR_s, isJ_s, gV_s, iV_i, cs0, cs1, cs2, cs3, cs4, dn_nil, kd_si, kd_sl, kd_sw, mr_si, mr_sl, mr_sw, ml_si, ml_sw, mi_sl, st_k T, st_r6 T, st_r7 T, st_r8 T, st_r9 T, st_r10 T, st_r11 T, st_r12 T, st_r13 T, st_k1 T, st_k2 T, st_k3 T, st_k4 T, st_k5 T, st_k6 T, st_ki T, st_i2 T, st_i3 T, st_i4 T, st_i5 T, st_i6 T, st_k8 T, st_k9 T, st_k10 T, st_k11 T, st_k12 T, st_kb T, st_b2 T, st_b3 T, st_b4 T, st_b5 T, st_b6 T, st_k14 T, st_k15 T, st_k16 T, st_k17 T, st_k18 T, kd_sb, mr_sb, ml_sb, bm_0, bm_1, bm_2, bm_3, bm_4, bm_5, bm_6, bm_7, bm_8, bm_9, bm_10, bm_11, bm_12, bm_13, bm_14, bm_15, bm_16, bm_17, bm_18, bs_0, bs_1, bs_2, bs_3, bs_4, bs_5, bs_6, bs_7, bs_8, bs_9, bs_10, bs_11, bs_12, bs_13, bs_14, bs_15, bs_16, bs_17, bs_18, b_1, n_1, ↓if_neg w, if_neg w, ↓if_neg c2, if_neg c2, rX_1]
    · have z : b2i (gLB due t R j) = 0 := by unfold gLB; rw [if_neg w, decide_eq_false c]; rfl
      have c2 : R 18 j ≤ R 17 j + due := Int32.not_lt.mp c
      rw [z]
      simp -implicitDefEqProofs only [D_318_0, k_318_0, D_318_14, k_318_14, D_318_20, k_318_20, D_318_39, k_318_39, D_318_40, k_318_40, R_318, v_aload_n, g_getfield, sv_a, rf_s, v_iload_n, v_iaload, inI_0, g_iconst, g_icmp_ne, g_goto, g_istore, v_iload, g_iadd, g_icmp_le, g_ireturn, entL, getL, setL, kL_i, kL_r, isI_s, isR_s, isJ_s, gV_s, iV_i, cs0, cs1, cs2, cs3, cs4, dn_nil, kd_si, kd_sl, kd_sw, mr_si, mr_sl, mr_sw, ml_si, ml_sw, mi_sl, st_k T, st_r6 T, st_r7 T, st_r8 T, st_r9 T, st_r10 T, st_r11 T, st_r12 T, st_r13 T, st_k1 T, st_k2 T, st_k3 T, st_k4 T, st_k5 T, st_k6 T, st_ki T, st_i2 T, st_i3 T, st_i4 T, st_i5 T, st_i6 T, st_k8 T, st_k9 T, st_k10 T, st_k11 T, st_k12 T, st_kb T, st_b2 T, st_b3 T, st_b4 T, st_b5 T, st_b6 T, st_k14 T, st_k15 T, st_k16 T, st_k17 T, st_k18 T, kd_sb, mr_sb, ml_sb, bm_0, bm_1, bm_2, bm_3, bm_4, bm_5, bm_6, bm_7, bm_8, bm_9, bm_10, bm_11, bm_12, bm_13, bm_14, bm_15, bm_16, bm_17, bm_18, bs_0, bs_1, bs_2, bs_3, bs_4, bs_5, bs_6, bs_7, bs_8, bs_9, bs_10, bs_11, bs_12, bs_13, bs_14, bs_15, bs_16, bs_17, bs_18, b_1, n_1, ↓if_neg w, if_neg w, ↓if_pos c2, if_pos c2, rX_0]
