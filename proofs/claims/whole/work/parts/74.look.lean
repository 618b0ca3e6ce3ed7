-- ===== looking ahead, in both =====
theorem fl_id {A : Type} {f : Nat → A → A} {a : A} (hf : ∀ j, f j a = a) : ∀ d i, fl f d i a = a := by
  intro d
  induction d with
  | zero => intro i; rfl
  | succ d ih => intro i; show fl f d (i + 1) (f i a) = a; rw [hf, ih]
theorem lx {A : Type} {P : Pg} {y pc n : Nat} {L : Nat → A → Lc → Lc} {h : A → Mm} {f : Nat → A → A} {r : A → Option Rs} {I : Nat → A → Prop}
    (hs : ∀ i a tl, i < n → I i a → (I (i + 1) (f i a) ∧ ∃ tl', dB P y pc (L i a tl) [] (h a) = dB P y pc (L (i + 1) (f i a) tl') [] (h (f i a))) ∨ ((∀ j, f j a = a) ∧ dB P y pc (L i a tl) [] (h a) = r a))
    (he : ∀ a tl, I n a → dB P y pc (L n a tl) [] (h a) = r a) : ∀ (d i : Nat) (a : A) (tl : Lc), i + d = n → I i a → dB P y pc (L i a tl) [] (h a) = r (fl f d i a) := by
  intro d
  induction d with
  | zero =>
    intro i a tl hi hI
    obtain rfl : i = n := by omega
    exact he a tl hI
  | succ d ih =>
    intro i a tl hi hI
    rcases hs i a tl (by omega) hI with ⟨hI', tl', e⟩ | ⟨hf, e⟩
    · rw [e]
      exact ih (i + 1) (f i a) tl' (by omega) hI'
    · rw [e, fl_id hf]
theorem li2 {A : Type} {P : Pg} {y pc n : Nat} {L : Nat → A → Lc → Lc} {h : Mm} {f : Nat → A → A}
    (hs : ∀ i a tl, i < n → ∃ tl', dB P y pc (L i a tl) [] h = dB P y pc (L (i + 1) (f i a) tl') [] h) : ∀ (d i : Nat) (a : A) (tl : Lc), i + d = n → ∃ tl', dB P y pc (L i a tl) [] h = dB P y pc (L n (fl f d i a) tl') [] h := by
  intro d
  induction d with
  | zero =>
    intro i a tl hi
    obtain rfl : i = n := by omega
    exact ⟨tl, rfl⟩
  | succ d ih =>
    intro i a tl hi
    obtain ⟨tl', e⟩ := hs i a tl (by omega)
    obtain ⟨tl2, e2⟩ := ih (i + 1) (f i a) tl' (by omega)
    exact ⟨tl2, e.trans e2⟩
def waS (kd wt : Nat → Int32) (x : Int32) (most : Nat) (i : Nat) (a : Nat × (Nat → Int32)) : Nat × (Nat → Int32) := if a.1 < most ∧ kd i = x then (a.1 + 1, zu a.2 a.1 (wt i)) else a
theorem waS_stop {kd wt : Nat → Int32} {x : Int32} {most : Nat} {a : Nat × (Nat → Int32)} (h : most ≤ a.1) : ∀ j, waS kd wt x most j a = a := by
  intro j
  unfold waS
  rw [if_neg (fun q => by omega)]
theorem waS_y {kd wt : Nat → Int32} {x : Int32} {most i : Nat} {a : Nat × (Nat → Int32)} (h : a.1 < most) (c : kd i = x) : waS kd wt x most i a = (a.1 + 1, zu a.2 a.1 (wt i)) := if_pos ⟨h, c⟩
theorem waS_n {kd wt : Nat → Int32} {x : Int32} {most i : Nat} {a : Nat × (Nat → Int32)} (c : ¬ kd i = x) : waS kd wt x most i a = a := if_neg (fun q => c q.2)
theorem R_270 : PG.2.1 270 = (some .int) := rfl
theorem m_270 {b x0 m most : Nat} (hb : b + 19 ≤ 276 ∨ 276 < b) (hm : m ≤ 80) (hx0 : x0 ≤ m) (hmo : most ≤ 12) {x : Int32} {h : Mm} (T : ST h b) (hk : h.kd 276 = some (.inr (.int, 12))) (h70 : h.mi (b + 7) 0 = Int32.ofNat m) (h71 : h.mi (b + 7) 1 = Int32.ofNat x0) : dM PG 270 [.ref (b + 7), .int x, .int (Int32.ofNat most), .ref 276] h = some (.inl (some (.int (Int32.ofNat (fl (waS (h.mi (b + 9)) (h.mi (b + 8)) x most) (m - x0) x0 (0, h.mi 276)).1))), h.sw 276 (fl (waS (h.mi (b + 9)) (h.mi (b + 8)) x most) (m - x0) x0 (0, h.mi 276)).2) := by
  rw [dM_of (Nat.le_of_ble_eq_true rfl)]
  simp -implicitDefEqProofs only [D_270_0, k_270_0, g_iconst, g_istore, v_aload_n, g_getfield, sv_i, rf_s, entL, getL, setL, kL_i, kL_r, isI_s, isR_s, isJ_s, gV_s, iV_i, cs0, cs1, cs2, cs3, cs4, dn_nil, kd_si, kd_sl, kd_sw, mr_si, mr_sl, mr_sw, ml_si, ml_sw, mi_sl, st_k T, st_r6 T, st_r7 T, st_r8 T, st_r9 T, st_r10 T, st_r11 T, st_r12 T, st_r13 T, st_k1 T, st_k2 T, st_k3 T, st_k4 T, st_k5 T, st_k6 T, st_ki T, st_i2 T, st_i3 T, st_i4 T, st_i5 T, st_i6 T, st_k8 T, st_k9 T, st_k10 T, st_k11 T, st_k12 T, st_kb T, st_b2 T, st_b3 T, st_b4 T, st_b5 T, st_b6 T, st_k14 T, st_k15 T, st_k16 T, st_k17 T, st_k18 T, h71]
  have y7 : ∀ W, (h.sw 276 W).mi (b + 7) = h.mi (b + 7) := fun W => mi_swo (by omega)
  have y8 : ∀ W, (h.sw 276 W).mi (b + 8) = h.mi (b + 8) := fun W => mi_swo (by omega)
  have y9 : ∀ W, (h.sw 276 W).mi (b + 9) = h.mi (b + 9) := fun W => mi_swo (by omega)
  refine (congrArg (dB PG 270 9 _ []) (sw_id (h := h) (a := 276)).symm).trans ?_
  refine lx (n := m) (I := fun _ a => a.1 ≤ most) (h := fun a => h.sw 276 a.2) (f := waS (h.mi (b + 9)) (h.mi (b + 8)) x most) (L := fun i a tl => some (.ref (b + 7)) :: some (.int x) :: some (.int (Int32.ofNat most)) :: some (.ref 276) :: some (.int (Int32.ofNat a.1)) :: some (.int (Int32.ofNat i)) :: tl) (r := fun a => some (.inl (some (.int (Int32.ofNat a.1))), h.sw 276 a.2)) ?_ ?_ (m - x0) x0 (0, h.mi 276) [] (by omega) (by omega)
  · intro i a tl hi hI
    have e : ¬ Int32.ofNat (m) ≤ Int32.ofNat (i) := by rw [i32_le (by omega) (by omega)]; omega
    have s1 : Int32.ofNat (i) + 1 = Int32.ofNat (i + 1) := i32_add (b := 1)
    have b_1 : inb (Int32.ofNat (i)) 80 = true := inb_nat (by omega) (by decide)
    have n_1 : (Int32.ofNat (i)).toNatClampNeg = i := i32_nat (by omega)
    by_cases c0 : most ≤ a.1
    · right
      refine ⟨waS_stop c0, ?_⟩
      have e2 : Int32.ofNat (most) ≤ Int32.ofNat (a.1) := by rw [i32_le (by omega) (by omega)]; omega
      rw [D_270_9]
      simp -implicitDefEqProofs only [D_270_0, k_270_0, k_270_9, D_270_56, k_270_56, D_270_62, k_270_62, R_270, g_iconst, g_istore, v_aload_n, g_getfield, sv_i, rf_s, v_iload, g_icmp_ge, v_iload_n, v_alen, isA_0, lnA_0, sv_a, v_iaload, inI_0, g_icmp_ne, v_iastore, wrI_0, v_iinc, g_goto, g_ireturn, entL, getL, setL, kL_i, kL_r, isI_s, isR_s, isJ_s, gV_s, iV_i, cs0, cs1, cs2, cs3, cs4, dn_nil, kd_si, kd_sl, kd_sw, mr_si, mr_sl, mr_sw, ml_si, ml_sw, mi_sl, st_k T, st_r6 T, st_r7 T, st_r8 T, st_r9 T, st_r10 T, st_r11 T, st_r12 T, st_r13 T, st_k1 T, st_k2 T, st_k3 T, st_k4 T, st_k5 T, st_k6 T, st_ki T, st_i2 T, st_i3 T, st_i4 T, st_i5 T, st_i6 T, st_k8 T, st_k9 T, st_k10 T, st_k11 T, st_k12 T, st_kb T, st_b2 T, st_b3 T, st_b4 T, st_b5 T, st_b6 T, st_k14 T, st_k15 T, st_k16 T, st_k17 T, st_k18 T, y7, y8, y9, h70, ↓if_neg e, if_neg e, ↓if_pos e2, if_pos e2, retX_int]
    · left
      have e2 : ¬ Int32.ofNat (most) ≤ Int32.ofNat (a.1) := by rw [i32_le (by omega) (by omega)]; omega
      have e3 : ¬ Int32.ofNat (12) ≤ Int32.ofNat (a.1) := by rw [i32_le (by omega) (by omega)]; omega
      have b_2 : inb (Int32.ofNat (a.1)) 12 = true := inb_nat (by omega) (by decide)
      have n_2 : (Int32.ofNat (a.1)).toNatClampNeg = a.1 := i32_nat (by omega)
      have s2 : Int32.ofNat (a.1) + 1 = Int32.ofNat (a.1 + 1) := i32_add (b := 1)
      by_cases c : h.mi (b + 9) i = x
      · rw [waS_y (by omega) c]
        refine ⟨by dsimp only; omega, tl, ?_⟩
        rw [D_270_9]
        simp -implicitDefEqProofs only [D_270_0, k_270_0, k_270_9, D_270_56, k_270_56, D_270_62, k_270_62, R_270, g_iconst, g_istore, v_aload_n, g_getfield, sv_i, rf_s, v_iload, g_icmp_ge, v_iload_n, v_alen, isA_0, lnA_0, sv_a, v_iaload, inI_0, g_icmp_ne, v_iastore, wrI_0, v_iinc, g_goto, g_ireturn, entL, getL, setL, kL_i, kL_r, isI_s, isR_s, isJ_s, gV_s, iV_i, cs0, cs1, cs2, cs3, cs4, dn_nil, kd_si, kd_sl, kd_sw, mr_si, mr_sl, mr_sw, ml_si, ml_sw, mi_sl, st_k T, st_r6 T, st_r7 T, st_r8 T, st_r9 T, st_r10 T, st_r11 T, st_r12 T, st_r13 T, st_k1 T, st_k2 T, st_k3 T, st_k4 T, st_k5 T, st_k6 T, st_ki T, st_i2 T, st_i3 T, st_i4 T, st_i5 T, st_i6 T, st_k8 T, st_k9 T, st_k10 T, st_k11 T, st_k12 T, st_kb T, st_b2 T, st_b3 T, st_b4 T, st_b5 T, st_b6 T, st_k14 T, st_k15 T, st_k16 T, st_k17 T, st_k18 T, y7, y8, y9, h70, hk, ↓if_neg e, if_neg e, ↓if_neg e2, if_neg e2, ↓if_neg e3, if_neg e3, b_1, n_1, b_2, n_2, ↓if_pos c, if_pos c, si_sw (a := 276), sw_sw, mi_sw, s1, s2]
      · rw [waS_n c]
        refine ⟨hI, tl, ?_⟩
        rw [D_270_9]
        simp -implicitDefEqProofs only [D_270_0, k_270_0, k_270_9, D_270_56, k_270_56, D_270_62, k_270_62, R_270, g_iconst, g_istore, v_aload_n, g_getfield, sv_i, rf_s, v_iload, g_icmp_ge, v_iload_n, v_alen, isA_0, lnA_0, sv_a, v_iaload, inI_0, g_icmp_ne, v_iastore, wrI_0, v_iinc, g_goto, g_ireturn, entL, getL, setL, kL_i, kL_r, isI_s, isR_s, isJ_s, gV_s, iV_i, cs0, cs1, cs2, cs3, cs4, dn_nil, kd_si, kd_sl, kd_sw, mr_si, mr_sl, mr_sw, ml_si, ml_sw, mi_sl, st_k T, st_r6 T, st_r7 T, st_r8 T, st_r9 T, st_r10 T, st_r11 T, st_r12 T, st_r13 T, st_k1 T, st_k2 T, st_k3 T, st_k4 T, st_k5 T, st_k6 T, st_ki T, st_i2 T, st_i3 T, st_i4 T, st_i5 T, st_i6 T, st_k8 T, st_k9 T, st_k10 T, st_k11 T, st_k12 T, st_kb T, st_b2 T, st_b3 T, st_b4 T, st_b5 T, st_b6 T, st_k14 T, st_k15 T, st_k16 T, st_k17 T, st_k18 T, y7, y8, y9, h70, hk, ↓if_neg e, if_neg e, ↓if_neg e2, if_neg e2, ↓if_neg e3, if_neg e3, b_1, n_1, ↓if_neg c, if_neg c, s1]
  · intro a tl hI
    have e : Int32.ofNat (m) ≤ Int32.ofNat (m) := by rw [i32_le (by omega) (by omega)]; omega
    rw [D_270_9]
    simp -implicitDefEqProofs only [D_270_0, k_270_0, k_270_9, D_270_56, k_270_56, D_270_62, k_270_62, R_270, g_iconst, g_istore, v_aload_n, g_getfield, sv_i, rf_s, v_iload, g_icmp_ge, v_iload_n, v_alen, isA_0, lnA_0, sv_a, v_iaload, inI_0, g_icmp_ne, v_iastore, wrI_0, v_iinc, g_goto, g_ireturn, entL, getL, setL, kL_i, kL_r, isI_s, isR_s, isJ_s, gV_s, iV_i, cs0, cs1, cs2, cs3, cs4, dn_nil, kd_si, kd_sl, kd_sw, mr_si, mr_sl, mr_sw, ml_si, ml_sw, mi_sl, st_k T, st_r6 T, st_r7 T, st_r8 T, st_r9 T, st_r10 T, st_r11 T, st_r12 T, st_r13 T, st_k1 T, st_k2 T, st_k3 T, st_k4 T, st_k5 T, st_k6 T, st_ki T, st_i2 T, st_i3 T, st_i4 T, st_i5 T, st_i6 T, st_k8 T, st_k9 T, st_k10 T, st_k11 T, st_k12 T, st_kb T, st_b2 T, st_b3 T, st_b4 T, st_b5 T, st_b6 T, st_k14 T, st_k15 T, st_k16 T, st_k17 T, st_k18 T, y7, h70, ↓if_pos e, if_pos e, retX_int]
theorem R_271 : PG.2.1 271 = (some .int) := rfl
def suS (W : Nat → Int32) (x : Int32) (j : Nat) (a : Int32) : Int32 := if bU x j = 0 then a else a + W j
theorem m_271 {x : Int32} {h : Mm} (hk : h.kd 276 = some (.inr (.int, 12))) : dM PG 271 [.ref 276, .int x] h = some (.inl (some (.int (fl (suS (h.mi 276) x) 12 0 0))), h) := by
  rw [dM_of (Nat.le_of_ble_eq_true rfl)]
  simp -implicitDefEqProofs only [D_271_0, k_271_0, g_iconst, g_istore_n, entL, getL, setL, kL_i, kL_r, isI_s, isR_s, isJ_s, gV_s, iV_i, cs0, cs1, cs2, cs3, cs4, dn_nil, kd_si, kd_sl, kd_sw, mr_si, mr_sl, mr_sw, ml_si, ml_sw, mi_sl]
  refine lq (n := 12) (f := suS (h.mi 276) x) (L := fun k a tl => some (.ref 276) :: some (.int x) :: some (.int a) :: some (.int (Int32.ofNat k)) :: tl) (r := fun a => some (.inl (some (.int a)), h)) ?_ ?_ 12 0 0 [] (by omega)
  · intro k a tl hk'
    refine ⟨tl, ?_⟩
    have e : ¬ Int32.ofNat (12) ≤ Int32.ofNat (k) := by rw [i32_le (by omega) (by omega)]; omega
    have s1 : Int32.ofNat (k) + 1 = Int32.ofNat (k + 1) := i32_add (b := 1)
    have b_1 : inb (Int32.ofNat (k)) 12 = true := inb_nat (by omega) (by decide)
    have n_1 : (Int32.ofNat (k)).toNatClampNeg = k := i32_nat (by omega)
    rw [D_271_4]
    unfold suS
    by_cases c : bU x k = 0
    · have c2 : (x.toUInt32 >>> ((Int32.ofNat k).toUInt32 &&& Int32.toUInt32 31)).toInt32 &&& 1 = 0 := c
      simp -implicitDefEqProofs only [D_271_0, k_271_0, k_271_4, D_271_24, k_271_24, D_271_30, k_271_30, R_271, g_iconst, g_istore_n, v_iload_n, v_aload_n, v_alen, isA_0, lnA_0, g_icmp_ge, g_iushr, g_iand, g_if_eq, v_iaload, inI_0, g_iadd, v_iinc, g_goto, g_ireturn, entL, getL, setL, kL_i, kL_r, isI_s, isR_s, isJ_s, gV_s, iV_i, cs0, cs1, cs2, cs3, cs4, dn_nil, kd_si, kd_sl, kd_sw, mr_si, mr_sl, mr_sw, ml_si, ml_sw, mi_sl, hk, ↓if_neg e, if_neg e, ↓if_pos c, if_pos c, ↓if_pos c2, if_pos c2, s1]
    · have c2 : ¬ (x.toUInt32 >>> ((Int32.ofNat k).toUInt32 &&& Int32.toUInt32 31)).toInt32 &&& 1 = 0 := c
      simp -implicitDefEqProofs only [D_271_0, k_271_0, k_271_4, D_271_24, k_271_24, D_271_30, k_271_30, R_271, g_iconst, g_istore_n, v_iload_n, v_aload_n, v_alen, isA_0, lnA_0, g_icmp_ge, g_iushr, g_iand, g_if_eq, v_iaload, inI_0, g_iadd, v_iinc, g_goto, g_ireturn, entL, getL, setL, kL_i, kL_r, isI_s, isR_s, isJ_s, gV_s, iV_i, cs0, cs1, cs2, cs3, cs4, dn_nil, kd_si, kd_sl, kd_sw, mr_si, mr_sl, mr_sw, ml_si, ml_sw, mi_sl, hk, ↓if_neg e, if_neg e, b_1, n_1, ↓if_neg c, if_neg c, ↓if_neg c2, if_neg c2, s1]
  · intro a tl
    have e : Int32.ofNat (12) ≤ Int32.ofNat (12) := by rw [i32_le (by omega) (by omega)]; omega
    rw [D_271_4]
    simp -implicitDefEqProofs only [D_271_0, k_271_0, k_271_4, D_271_24, k_271_24, D_271_30, k_271_30, R_271, g_iconst, g_istore_n, v_iload_n, v_aload_n, v_alen, isA_0, lnA_0, g_icmp_ge, g_iushr, g_iand, g_if_eq, v_iaload, inI_0, g_iadd, v_iinc, g_goto, g_ireturn, entL, getL, setL, kL_i, kL_r, isI_s, isR_s, isJ_s, gV_s, iV_i, cs0, cs1, cs2, cs3, cs4, dn_nil, kd_si, kd_sl, kd_sw, mr_si, mr_sl, mr_sw, ml_si, ml_sw, mi_sl, hk, ↓if_pos e, if_pos e, retX_int]
theorem shl_1 {k : Nat} (hk : k ≤ 12) : (1 : Int32) <<< (Int32.ofNat k &&& 31) = Int32.ofNat (2 ^ k) := by
  have : ∀ j : Fin 13, (1 : Int32) <<< (Int32.ofNat j.val &&& 31) = Int32.ofNat (2 ^ j.val) := by decide
  exact this ⟨k, by omega⟩
theorem two_le {k : Nat} (hk : k ≤ 12) : 1 ≤ 2 ^ k ∧ 2 ^ k ≤ 4096 := ⟨Nat.one_le_two_pow, Nat.pow_le_pow_right (by decide) hk⟩
/-- the least excess that isn't negative -/
def lkS (ov : Nat → Int32) (s : Nat) (best : Int32) : Int32 := if ov s < 0 then best else if best = -1 ∨ ov s < best then ov s else best
theorem R_179 : PG.2.1 179 = (some .int) := rfl
theorem x_179 {E : String} : PG.2.2.1 179 E = none := rfl
theorem m_179n {i p q : Int32} {u d b c : Nat} {h : Mm} (G : GO h u d b c) (U : SU h u) (hl : h.mi 200 4 = 0) : dM PG 179 [.ref 200, .int i, .int p, .int q] h = some (.inr (exN 0), h.thr) := by
  rw [dM_of (Nat.le_of_ble_eq_true rfl)]
  simp -implicitDefEqProofs only [D_179_0, k_179_0, v_aload_n, v_iload_n, v_callV3, aft_v, aft_n, g_iconst, g_bipush, v_callS3, g_getfield, sv_o, rf_s, sv_a, v_callV4, g_istore, v_iaload, inI_0, g_imul, g_iadd, g_isub, entL, getL, setL, kL_i, kL_r, isI_s, isR_s, isJ_s, gV_s, iV_i, cs0, cs1, cs2, cs3, cs4, dn_nil, kd_si, kd_sl, kd_sw, mr_si, mr_sl, mr_sw, ml_si, ml_sw, mi_sl, go_k G, m_261n G U hl, aft_x (x_179)]
theorem m_179x {i p q : Int32} {u d b c : Nat} {h : Mm} (G : GO h u d b c) (U : SU h u) (hl : ¬ h.mi 200 4 = 0) (hi : i < 0 ∨ ¬ i < h.mi u 11) : dM PG 179 [.ref 200, .int i, .int p, .int q] h = some (.inr (exN 1), h.thr) := by
  rw [dM_of (Nat.le_of_ble_eq_true rfl)]
  simp -implicitDefEqProofs only [D_179_0, k_179_0, v_aload_n, v_iload_n, v_callV3, aft_v, aft_n, g_iconst, g_bipush, v_callS3, g_getfield, sv_o, rf_s, sv_a, v_callV4, g_istore, v_iaload, inI_0, g_imul, g_iadd, g_isub, entL, getL, setL, kL_i, kL_r, isI_s, isR_s, isJ_s, gV_s, iV_i, cs0, cs1, cs2, cs3, cs4, dn_nil, kd_si, kd_sl, kd_sw, mr_si, mr_sl, mr_sw, ml_si, ml_sw, mi_sl, go_k G, m_261x G U hl hi, aft_x (x_179)]
theorem m_179p {k : Nat} {p q : Int32} (hk : k < 4) {u d b c : Nat} {h : Mm} (G : GO h u d b c) (U : SU h u) (hl : ¬ h.mi 200 4 = 0) (e : Int32.ofNat k < h.mi u 11) (hp : p < 0 ∨ ¬ p < h.mi (u + 3 + k) 1) : dM PG 179 [.ref 200, .int (Int32.ofNat k), .int p, .int q] h = some (.inr (exN 1), h.thr) := by
  rw [dM_of (Nat.le_of_ble_eq_true rfl)]
  simp -implicitDefEqProofs only [D_179_0, k_179_0, v_aload_n, v_iload_n, v_callV3, aft_v, aft_n, g_iconst, g_bipush, v_callS3, g_getfield, sv_o, rf_s, sv_a, v_callV4, g_istore, v_iaload, inI_0, g_imul, g_iadd, g_isub, entL, getL, setL, kL_i, kL_r, isI_s, isR_s, isJ_s, gV_s, iV_i, cs0, cs1, cs2, cs3, cs4, dn_nil, kd_si, kd_sl, kd_sw, mr_si, mr_sl, mr_sw, ml_si, ml_sw, mi_sl, go_k G, m_261p hk G U hl e hp, aft_x (x_179)]
theorem m_179r {k p : Nat} {q : Int32} (hk : k < 4) (hp3 : p < 3) {u d b c : Nat} {h : Mm} (G : GO h u d b c) (U : SU h u) (hl : ¬ h.mi 200 4 = 0) (e : Int32.ofNat k < h.mi u 11) (ep : Int32.ofNat p < h.mi (u + 3 + k) 1) (hq : q < 1 ∨ ¬ q ≤ 12) : dM PG 179 [.ref 200, .int (Int32.ofNat k), .int (Int32.ofNat p), .int q] h = some (.inr (exN 2), h.thr) := by
  rw [dM_of (Nat.le_of_ble_eq_true rfl)]
  have ap : ¬ Int32.ofNat p < 0 := i32_0n (by omega)
  simp -implicitDefEqProofs only [D_179_0, k_179_0, v_aload_n, v_iload_n, v_callV3, aft_v, aft_n, g_iconst, g_bipush, v_callS3, g_getfield, sv_o, rf_s, sv_a, v_callV4, g_istore, v_iaload, inI_0, g_imul, g_iadd, g_isub, entL, getL, setL, kL_i, kL_r, isI_s, isR_s, isJ_s, gV_s, iV_i, cs0, cs1, cs2, cs3, cs4, dn_nil, kd_si, kd_sl, kd_sw, mr_si, mr_sl, mr_sw, ml_si, ml_sw, mi_sl, go_k G, m_261y hk G U hl e ap ep, m_251n hq, aft_x (x_179)]
theorem m_179y {k p q x0 m : Nat} (hk : k < 4) (hp3 : p < 3) (hq1 : 1 ≤ q) (hq2 : q ≤ 12) (hm : m ≤ 80) (hx0 : x0 ≤ m) {u d b c : Nat} (hb : b + 19 ≤ 276 ∨ 276 < b) {h : Mm} (G : GO h u d b c) (U : SU h u) (T : ST h b) (hl : ¬ h.mi 200 4 = 0) (e : Int32.ofNat k < h.mi u 11) (ep : Int32.ofNat p < h.mi (u + 3 + k) 1) (h70 : h.mi (b + 7) 0 = Int32.ofNat m) (h71 : h.mi (b + 7) 1 = Int32.ofNat x0) {fd : Nat} {W : Nat → Int32} (hw : fl (waS (h.mi (b + 9)) (h.mi (b + 8)) (Int32.ofNat k) q) (m - x0) x0 (0, h.mi 276) = (fd, W)) (hfd : fd ≤ 12) : dM PG 179 [.ref 200, .int (Int32.ofNat k), .int (Int32.ofNat p), .int (Int32.ofNat q)] h = some (.inl (some (.int (fl (lkS (fun s => fl (suS W (Int32.ofNat s)) 12 0 0 - (h.mi (b + 2) k - h.mi (b + 6) (k * 3 + p)))) (2 ^ fd - 1) 1 (-1)))), h.sw 276 W) := by
  rw [dM_of (Nat.le_of_ble_eq_true rfl)]
  have ap : ¬ Int32.ofNat p < 0 := i32_0n (by omega)
  have aq0 : ¬ Int32.ofNat (q) < Int32.ofNat (1) := by rw [i32_lt (by omega) (by omega)]; omega
  have eq0 : Int32.ofNat (q) ≤ Int32.ofNat (12) := by rw [i32_le (by omega) (by omega)]; omega
  have aq : ¬ Int32.ofNat q < 1 := aq0
  have eq : Int32.ofNat q ≤ 12 := eq0
  have b_1 : inb (Int32.ofNat (k)) 4 = true := inb_nat (by omega) (by decide)
  have n_1 : (Int32.ofNat (k)).toNatClampNeg = k := i32_nat (by omega)
  have b_2 : inb (Int32.ofNat (k * 3 + p)) 12 = true := inb_nat (by omega) (by decide)
  have n_2 : (Int32.ofNat (k * 3 + p)).toNatClampNeg = k * 3 + p := i32_nat (by omega)
  have g := m_270 hb hm hx0 hq2 (x := Int32.ofNat k) T (go_k276 G) h70 h71
  rw [hw] at g
  dsimp only at g
  have y0 : (h.sw 276 W).mi b = h.mi b := mi_swo (by omega)
  have y2 : (h.sw 276 W).mi (b + 2) = h.mi (b + 2) := mi_swo (by omega)
  have y6 : (h.sw 276 W).mi (b + 6) = h.mi (b + 6) := mi_swo (by omega)
  obtain ⟨t1, t2⟩ := two_le hfd
  simp -implicitDefEqProofs only [D_179_0, k_179_0, v_aload_n, v_iload_n, v_callV3, aft_v, aft_n, g_iconst, g_bipush, v_callS3, g_getfield, sv_o, rf_s, sv_a, v_callV4, g_istore, v_iaload, inI_0, g_imul, g_iadd, g_isub, entL, getL, setL, kL_i, kL_r, isI_s, isR_s, isJ_s, gV_s, iV_i, cs0, cs1, cs2, cs3, cs4, dn_nil, kd_si, kd_sl, kd_sw, mr_si, mr_sl, mr_sw, ml_si, ml_sw, mi_sl, go_k G, go_r0 G, go_r5 G, go_r6 G, go_r7 G, go_r8 G, go_r10 G, go_r12 G, go_r13 G, go_r14 G, go_k201 G, go_k273 G, go_k274 G, go_k276 G, st_k T, st_r6 T, st_r7 T, st_r8 T, st_r9 T, st_r10 T, st_r11 T, st_r12 T, st_r13 T, st_k1 T, st_k2 T, st_k3 T, st_k4 T, st_k5 T, st_k6 T, st_ki T, st_i2 T, st_i3 T, st_i4 T, st_i5 T, st_i6 T, st_k8 T, st_k9 T, st_k10 T, st_k11 T, st_k12 T, st_kb T, st_b2 T, st_b3 T, st_b4 T, st_b5 T, st_b6 T, st_k14 T, st_k15 T, st_k16 T, st_k17 T, st_k18 T, m_261y hk G U hl e ap ep, m_251y aq eq, g, y0, y2, y6, b_1, n_1, b_2, n_2, rm_3, i32_add]
  generalize hlk : h.mi (b + 2) k - h.mi (b + 6) (k * 3 + p) = lack
  obtain ⟨sm, hsm⟩ : ∃ sm : Nat → Int32, ∀ s, fl (suS W (Int32.ofNat s)) 12 0 0 = sm s := ⟨fun s => fl (suS W (Int32.ofNat s)) 12 0 0, fun _ => rfl⟩
  have g2 : ∀ s, dM PG 271 [.ref 276, .int (Int32.ofNat s)] (h.sw 276 W) = some (.inl (some (.int (sm s))), h.sw 276 W) := fun s => by
    rw [m_271 (h := h.sw 276 W) (go_k276 G), mi_sw, hsm]
  simp only [hsm]
  refine lq (n := 2 ^ fd) (f := lkS (fun s => sm s - lack)) (L := fun s best tl => some (.ref 200) :: some (.int (Int32.ofNat k)) :: some (.int (Int32.ofNat p)) :: some (.int (Int32.ofNat q)) :: some (.int (Int32.ofNat fd)) :: some (.int lack) :: some (.int best) :: some (.int (Int32.ofNat s)) :: tl) (r := fun best => some (.inl (some (.int best)), h.sw 276 W)) ?_ ?_ (2 ^ fd - 1) 1 (-1) [] (by omega)
  · intro s best tl hs
    have es : ¬ Int32.ofNat (2 ^ fd) ≤ Int32.ofNat (s) := by rw [i32_le (by omega) (by omega)]; omega
    have s1 : Int32.ofNat (s) + 1 = Int32.ofNat (s + 1) := i32_add (b := 1)
    refine ⟨some (.int (sm s - lack)) :: tl.tail, ?_⟩
    dsimp only [lkS]
    rw [D_179_62]
    by_cases c1 : sm s - lack < 0
    · simp -implicitDefEqProofs only [D_179_0, k_179_0, k_179_62, D_179_103, k_179_103, D_179_107, k_179_107, D_179_113, k_179_113, R_179, v_aload_n, v_iload_n, v_callV3, aft_v, aft_n, g_iconst, g_bipush, v_callS3, g_getfield, sv_o, rf_s, sv_a, v_callV4, g_istore, v_iaload, inI_0, g_imul, g_iadd, g_isub, v_iload, g_ishl, g_icmp_ge, v_callS2, g_if_lt, g_icmp_eq, v_iinc, g_goto, g_ireturn, entL, getL, setL, kL_i, kL_r, isI_s, isR_s, isJ_s, gV_s, iV_i, cs0, cs1, cs2, cs3, cs4, dn_nil, kd_si, kd_sl, kd_sw, mr_si, mr_sl, mr_sw, ml_si, ml_sw, mi_sl, go_k G, go_r0 G, go_r5 G, go_r6 G, go_r7 G, go_r8 G, go_r10 G, go_r12 G, go_r13 G, go_r14 G, go_k201 G, go_k273 G, go_k274 G, go_k276 G, shl_1 hfd, ↓if_neg es, if_neg es, g2 s, setL_0, ↓if_pos c1, if_pos c1, s1]
    · by_cases c2 : best = -1
      · have z : (best = -1 ∨ sm s - lack < best) := Or.inl c2
        simp -implicitDefEqProofs only [D_179_0, k_179_0, k_179_62, D_179_103, k_179_103, D_179_107, k_179_107, D_179_113, k_179_113, R_179, v_aload_n, v_iload_n, v_callV3, aft_v, aft_n, g_iconst, g_bipush, v_callS3, g_getfield, sv_o, rf_s, sv_a, v_callV4, g_istore, v_iaload, inI_0, g_imul, g_iadd, g_isub, v_iload, g_ishl, g_icmp_ge, v_callS2, g_if_lt, g_icmp_eq, v_iinc, g_goto, g_ireturn, entL, getL, setL, kL_i, kL_r, isI_s, isR_s, isJ_s, gV_s, iV_i, cs0, cs1, cs2, cs3, cs4, dn_nil, kd_si, kd_sl, kd_sw, mr_si, mr_sl, mr_sw, ml_si, ml_sw, mi_sl, go_k G, go_r0 G, go_r5 G, go_r6 G, go_r7 G, go_r8 G, go_r10 G, go_r12 G, go_r13 G, go_r14 G, go_k201 G, go_k273 G, go_k274 G, go_k276 G, shl_1 hfd, ↓if_neg es, if_neg es, g2 s, setL_0, ↓if_neg c1, if_neg c1, ↓if_pos c2, if_pos c2, ↓if_pos z, if_pos z, s1]
      · by_cases c3 : sm s - lack < best
        · have z : (best = -1 ∨ sm s - lack < best) := Or.inr c3
          have c4 : ¬ best ≤ sm s - lack := Int32.not_le.mpr c3
          simp -implicitDefEqProofs only [D_179_0, k_179_0, k_179_62, D_179_103, k_179_103, D_179_107, k_179_107, D_179_113, k_179_113, R_179, v_aload_n, v_iload_n, v_callV3, aft_v, aft_n, g_iconst, g_bipush, v_callS3, g_getfield, sv_o, rf_s, sv_a, v_callV4, g_istore, v_iaload, inI_0, g_imul, g_iadd, g_isub, v_iload, g_ishl, g_icmp_ge, v_callS2, g_if_lt, g_icmp_eq, v_iinc, g_goto, g_ireturn, entL, getL, setL, kL_i, kL_r, isI_s, isR_s, isJ_s, gV_s, iV_i, cs0, cs1, cs2, cs3, cs4, dn_nil, kd_si, kd_sl, kd_sw, mr_si, mr_sl, mr_sw, ml_si, ml_sw, mi_sl, go_k G, go_r0 G, go_r5 G, go_r6 G, go_r7 G, go_r8 G, go_r10 G, go_r12 G, go_r13 G, go_r14 G, go_k201 G, go_k273 G, go_k274 G, go_k276 G, shl_1 hfd, ↓if_neg es, if_neg es, g2 s, setL_0, ↓if_neg c1, if_neg c1, ↓if_neg c2, if_neg c2, ↓if_neg c4, if_neg c4, ↓if_pos z, if_pos z, s1]
        · have z : ¬ (best = -1 ∨ sm s - lack < best) := fun q => q.elim c2 c3
          have c4 : best ≤ sm s - lack := Int32.not_lt.mp c3
          simp -implicitDefEqProofs only [D_179_0, k_179_0, k_179_62, D_179_103, k_179_103, D_179_107, k_179_107, D_179_113, k_179_113, R_179, v_aload_n, v_iload_n, v_callV3, aft_v, aft_n, g_iconst, g_bipush, v_callS3, g_getfield, sv_o, rf_s, sv_a, v_callV4, g_istore, v_iaload, inI_0, g_imul, g_iadd, g_isub, v_iload, g_ishl, g_icmp_ge, v_callS2, g_if_lt, g_icmp_eq, v_iinc, g_goto, g_ireturn, entL, getL, setL, kL_i, kL_r, isI_s, isR_s, isJ_s, gV_s, iV_i, cs0, cs1, cs2, cs3, cs4, dn_nil, kd_si, kd_sl, kd_sw, mr_si, mr_sl, mr_sw, ml_si, ml_sw, mi_sl, go_k G, go_r0 G, go_r5 G, go_r6 G, go_r7 G, go_r8 G, go_r10 G, go_r12 G, go_r13 G, go_r14 G, go_k201 G, go_k273 G, go_k274 G, go_k276 G, shl_1 hfd, ↓if_neg es, if_neg es, g2 s, setL_0, ↓if_neg c1, if_neg c1, ↓if_neg c2, if_neg c2, ↓if_pos c4, if_pos c4, ↓if_neg z, if_neg z, s1]
  · intro best tl
    have es : Int32.ofNat (2 ^ fd) ≤ Int32.ofNat (2 ^ fd) := by rw [i32_le (by omega) (by omega)]; omega
    rw [D_179_62]
    simp -implicitDefEqProofs only [D_179_0, k_179_0, k_179_62, D_179_103, k_179_103, D_179_107, k_179_107, D_179_113, k_179_113, R_179, v_aload_n, v_iload_n, v_callV3, aft_v, aft_n, g_iconst, g_bipush, v_callS3, g_getfield, sv_o, rf_s, sv_a, v_callV4, g_istore, v_iaload, inI_0, g_imul, g_iadd, g_isub, v_iload, g_ishl, g_icmp_ge, v_callS2, g_if_lt, g_icmp_eq, v_iinc, g_goto, g_ireturn, entL, getL, setL, kL_i, kL_r, isI_s, isR_s, isJ_s, gV_s, iV_i, cs0, cs1, cs2, cs3, cs4, dn_nil, kd_si, kd_sl, kd_sw, mr_si, mr_sl, mr_sw, ml_si, ml_sw, mi_sl, shl_1 hfd, ↓if_pos es, if_pos es, retX_int]
