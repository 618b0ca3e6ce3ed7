-- ===== builders of strings =====
def SBx (h : Mm) (s v cap len : Nat) (c : Nat → Nat) : Prop := h.kd s = some (.inl 10) ∧ h.mr s 0 = some v ∧ h.kd v = some (.inr (.byte, cap)) ∧ h.mi s 1 = 0 ∧ h.mi s 3 = Int32.ofNat len ∧ len ≤ cap ∧ cap ≤ 600 ∧ v ≠ s ∧ v < h.sz ∧ s < h.sz ∧ ∀ k, k < len → c k < 128 ∧ h.mi v k = Int32.ofNat (c k)
def FrB (h h' : Mm) (s v cap cap' : Nat) : Prop := h.sz ≤ h'.sz ∧ (∀ a, a < h.sz → h'.kd a = h.kd a ∧ h'.ml a = h.ml a) ∧ (∀ a, a < h.sz → a ≠ s → h'.mr a = h.mr a) ∧ (∀ a, a < h.sz → a ≠ s → a ≠ v → h'.mi a = h.mi a) ∧ h'.ns + 2 * cap ≤ h.ns + 2 * cap' ∧ h'.nc + cap ≤ h.nc + cap' ∧ cap ≤ cap'
theorem FrB.rf {h : Mm} {s v cap : Nat} : FrB h h s v cap cap := ⟨Nat.le_refl _, fun _ _ => ⟨rfl, rfl⟩, fun _ _ _ => rfl, fun _ _ _ _ => rfl, Nat.le_refl _, Nat.le_refl _, Nat.le_refl _⟩
theorem FrB.tr {h h' h2 : Mm} {s v v' cap cap' cap2 : Nat} (A : FrB h h' s v cap cap') (hv : v' = v ∨ h.sz ≤ v') (B : FrB h' h2 s v' cap' cap2) : FrB h h2 s v cap cap2 := by
  obtain ⟨a1, a2, a3, a4, a5, a6, a7⟩ := A
  obtain ⟨b1, b2, b3, b4, b5, b6, b7⟩ := B
  refine ⟨by omega, fun a ha => ?_, fun a ha hs => ?_, fun a ha hs hn => ?_, by omega, by omega, by omega⟩
  · exact ⟨(b2 a (by omega)).1.trans (a2 a ha).1, (b2 a (by omega)).2.trans (a2 a ha).2⟩
  · exact (b3 a (by omega) hs).trans (a3 a ha hs)
  · exact (b4 a (by omega) hs (by omega)).trans (a4 a ha hs hn)
/-- a builder's method that answers the builder: its letters behind it -/
def Apd (o : Option Rs) (h : Mm) (s v cap len' : Nat) (c' : Nat → Nat) : Prop := ∃ h' v' cap', o = some (.inl (some (.ref s)), h') ∧ SBx h' s v' cap' len' c' ∧ (v' = v ∨ h.sz ≤ v') ∧ FrB h h' s v cap cap'
theorem R_298 : PG.2.1 298 = (some .int) := rfl
theorem m_298 {h : Mm} {s v cap len : Nat} {c : Nat → Nat} (H : SBx h s v cap len c) : dM PG 298 [.ref s] h = some (.inl (some (.int (Int32.ofNat len))), h) := by
  rw [dM_of (Nat.le_of_ble_eq_true rfl)]
  obtain ⟨k1, r0, k2, i1, i3, -⟩ := H
  simp -implicitDefEqProofs only [D_298_0, k_298_0, R_298, v_aload_n, g_getfield, sv_i, rf_s, g_getfieldS, g_ireturn, entL, getL, setL, kL_i, kL_r, isI_s, isR_s, isJ_s, gV_s, iV_i, cs0, cs1, cs2, cs3, cs4, dn_nil, kd_si, kd_sl, kd_sw, mr_si, mr_sl, mr_sw, ml_si, ml_sw, mi_sl, k1, i3, retX_int]
theorem R_234 : PG.2.1 234 = (some .int) := rfl
theorem m_234 {h : Mm} {s v cap len : Nat} {c : Nat → Nat} (H : SBx h s v cap len c) : dM PG 234 [.ref s] h = some (.inl (some (.int (Int32.ofNat len))), h) := by
  rw [dM_of (Nat.le_of_ble_eq_true rfl)]
  have g := m_298 H
  obtain ⟨k1, r0, k2, i1, i3, -⟩ := H
  simp -implicitDefEqProofs only [D_234_0, k_234_0, R_234, v_aload_n, v_callU1, aft_v, aft_n, g_ireturn, entL, getL, setL, kL_i, kL_r, isI_s, isR_s, isJ_s, gV_s, iV_i, cs0, cs1, cs2, cs3, cs4, dn_nil, kd_si, kd_sl, kd_sw, mr_si, mr_sl, mr_sw, ml_si, ml_sw, mi_sl, k1, g, retX_int]
theorem R_339 : PG.2.1 339 = (some .boolean) := rfl
theorem m_339 {h : Mm} {s v cap len : Nat} {c : Nat → Nat} (H : SBx h s v cap len c) : dM PG 339 [.ref s] h = some (.inl (some (.int 1)), h) := by
  rw [dM_of (Nat.le_of_ble_eq_true rfl)]
  obtain ⟨k1, r0, k2, i1, i3, -⟩ := H
  simp -implicitDefEqProofs only [D_339_0, k_339_0, D_339_17, k_339_17, D_339_18, k_339_18, R_339, g_getstatic, g_if_eq, v_aload_n, g_getfield, sv_b, rf_s, g_getfieldS, g_if_ne, g_iconst, g_goto, g_ireturn, entL, getL, setL, kL_i, kL_r, isI_s, isR_s, isJ_s, gV_s, iV_i, cs0, cs1, cs2, cs3, cs4, dn_nil, kd_si, kd_sl, kd_sw, mr_si, mr_sl, mr_sw, ml_si, ml_sw, mi_sl, k1, i1, ↓if_neg z_1, if_neg z_1, ↓if_true, if_true, rX_1]
theorem R_299 : PG.2.1 299 = (some .char) := rfl
theorem m_299 {h : Mm} {s v cap len k : Nat} {c : Nat → Nat} (H : SBx h s v cap len c) (hk : k < len) : dM PG 299 [.ref s, .int (Int32.ofNat k)] h = some (.inl (some (.int (Int32.ofNat (c k)))), h) := by
  rw [dM_of (Nat.le_of_ble_eq_true rfl)]
  obtain ⟨k1, r0, k2, i1, i3, l1, l2, -, -, -, hc⟩ := H
  obtain ⟨d1, d2⟩ := hc k hk
  obtain ⟨c1, -, -, c4⟩ := ch_ok d1
  have mn : (if Int32.ofNat cap < Int32.ofNat len then Int32.ofNat cap else Int32.ofNat len) = Int32.ofNat len := by
    rw [if_neg]
    rw [i32_lt (by omega) (by omega)]; omega
  have b_1 : inb (Int32.ofNat k) cap = true := inb_nat (by omega) (by omega)
  have n_1 : (Int32.ofNat k).toNatClampNeg = k := i32_nat (by omega)
  have a : ¬ Int32.ofNat k < 0 := i32_0n (by omega)
  have e : ¬ Int32.ofNat (len) ≤ Int32.ofNat (k) := by rw [i32_le (by omega) (by omega)]; omega
  have ck0 : ¬ (Int32.ofNat k < 0 ∨ Int32.ofNat len ≤ Int32.ofNat k ∨ 8 < catS []) := fun hh => hh.elim a (fun hh => hh.elim e (fun hh => absurd hh (by decide)))
  simp -implicitDefEqProofs only [D_299_0, k_299_0, D_299_42, k_299_42, R_299, v_aload_n, g_getfield, sv_b, rf_s, g_getfieldS, g_istore_n, sv_a, g_astore_n, g_astore_nN, sv_i, v_alen, isA_0, lnA_0, v_iload_n, g_ishr, g_min, g_istore, v_iload, g_chk, g_if_ne, v_baload, inB_0, inB_1, g_sipush, g_iand, g_i2c, g_ireturn, entL, getL, setL, kL_i, kL_r, isI_s, isR_s, isJ_s, gV_s, iV_i, cs0, cs1, cs2, cs3, cs4, dn_nil, kd_si, kd_sl, kd_sw, mr_si, mr_sl, mr_sw, ml_si, ml_sw, mi_sl, k1, r0, k2, i1, i3, shr_0, mn, ck0, not_false_eq_true, ↓if_true, if_true, b_1, n_1, d2, c1, rC c4]
theorem R_235 : PG.2.1 235 = (some .char) := rfl
theorem m_235 {h : Mm} {s v cap len k : Nat} {c : Nat → Nat} (H : SBx h s v cap len c) (hk : k < len) : dM PG 235 [.ref s, .int (Int32.ofNat k)] h = some (.inl (some (.int (Int32.ofNat (c k)))), h) := by
  rw [dM_of (Nat.le_of_ble_eq_true rfl)]
  have g := m_299 H hk
  obtain ⟨k1, r0, k2, i1, i3, l1, l2, -, -, -, hc⟩ := H
  obtain ⟨c1, -, -, c4⟩ := ch_ok (hc k hk).1
  simp -implicitDefEqProofs only [D_235_0, k_235_0, R_235, v_aload_n, v_iload_n, v_callU2, aft_v, aft_n, g_ireturn, entL, getL, setL, kL_i, kL_r, isI_s, isR_s, isJ_s, gV_s, iV_i, cs0, cs1, cs2, cs3, cs4, dn_nil, kd_si, kd_sl, kd_sw, mr_si, mr_sl, mr_sw, ml_si, ml_sw, mi_sl, k1, g, rC c4]
theorem R_374 : PG.2.1 374 = (some .int) := rfl
theorem m_374 {a b c : Nat} (hb : a + max b c < 2147483639) {h : Mm} (h0 : 0 < a + max b c) : dM PG 374 [.int (Int32.ofNat a), .int (Int32.ofNat b), .int (Int32.ofNat c)] h = some (.inl (some (.int (Int32.ofNat (a + max b c)))), h) := by
  rw [dM_of (Nat.le_of_ble_eq_true rfl)]
  have mx : (if Int32.ofNat b < Int32.ofNat c then Int32.ofNat c else Int32.ofNat b) = Int32.ofNat (max b c) := by
    by_cases d : b < c
    · rw [if_pos (by rw [i32_lt (by omega) (by omega)]; exact d), Nat.max_eq_right (by omega)]
    · rw [if_neg (by rw [i32_lt (by omega) (by omega)]; exact d), Nat.max_eq_left (by omega)]
  have e1 : ¬ Int32.ofNat (a + max b c) ≤ 0 := by
    show ¬ Int32.ofNat (a + max b c) ≤ Int32.ofNat 0
    rw [i32_le (by omega) (by omega)]; omega
  have e2 : ¬ (2147483639 : Int32) < Int32.ofNat (a + max b c) := by
    show ¬ Int32.ofNat 2147483639 < Int32.ofNat (a + max b c)
    rw [i32_lt (by omega) (by omega)]; omega
  simp -implicitDefEqProofs only [D_374_0, k_374_0, D_374_21, k_374_21, R_374, v_iload_n, g_max, g_iadd, g_istore_n, g_iconst, g_icmp_ge, g_ldc, g_icmp_gt, g_ireturn, entL, getL, setL, kL_i, kL_r, isI_s, isR_s, isJ_s, gV_s, iV_i, cs0, cs1, cs2, cs3, cs4, dn_nil, kd_si, kd_sl, kd_sw, mr_si, mr_sl, mr_sw, ml_si, ml_sw, mi_sl, mx, i32_add, ↓if_neg e1, if_neg e1, ↓if_neg e2, if_neg e2, retX_int]
theorem R_360 : PG.2.1 360 = (some .int) := rfl
theorem i32_sub {a b : Nat} (h : b ≤ a) : Int32.ofNat a - Int32.ofNat b = Int32.ofNat (a - b) := by
  obtain ⟨k, rfl⟩ := Nat.exists_eq_add_of_le h
  rw [Nat.add_sub_cancel_left, Nat.add_comm b k, ← i32_add (a := k) (b := b)]
  exact Int32.add_sub_cancel _ _
theorem m_360 {h : Mm} {s v cap len mn : Nat} {c : Nat → Nat} (H : SBx h s v cap len c) (hm : cap < mn) (hm2 : mn ≤ 1000) : dM PG 360 [.ref s, .int (Int32.ofNat mn)] h = some (.inl (some (.int (Int32.ofNat (max mn (2 * cap + 2))))), h) := by
  rw [dM_of (Nat.le_of_ble_eq_true rfl)]
  obtain ⟨k1, r0, k2, i1, i3, l1, l2, -⟩ := H
  have e : cap + max (mn - cap) (cap + 2) = max mn (2 * cap + 2) := by omega
  have g := m_374 (a := cap) (b := mn - cap) (c := cap + 2) (by omega) (h := h) (by omega)
  rw [e] at g
  have s1 : Int32.ofNat cap + 2 = Int32.ofNat (cap + 2) := i32_add (b := 2)
  have z : ¬ Int32.ofNat (max mn (2 * cap + 2)) = 2147483647 := by
    show ¬ Int32.ofNat (max mn (2 * cap + 2)) = Int32.ofNat 2147483647
    exact i32_ne (by omega) (by omega) (by omega)
  simp -implicitDefEqProofs only [D_360_0, k_360_0, D_360_51, k_360_51, R_360, v_aload_n, g_getfield, sv_a, rf_s, g_getfieldS, v_alen, isA_0, lnA_0, g_istore_n, v_iload_n, sv_b, g_ishl, g_isub, g_istore, v_iload, g_iconst, g_iadd, v_callS3, aft_v, aft_n, g_ldc, g_icmp_ne, g_ishr, g_ireturn, entL, getL, setL, kL_i, kL_r, isI_s, isR_s, isJ_s, gV_s, iV_i, cs0, cs1, cs2, cs3, cs4, dn_nil, kd_si, kd_sl, kd_sw, mr_si, mr_sl, mr_sw, ml_si, ml_sw, mi_sl, k1, r0, k2, i1, shl_0, shr_0, i32_sub (Nat.le_of_lt hm), s1, g, ↓if_neg z, if_neg z, retX_int]
theorem R_361 : PG.2.1 361 = (some (.array .byte)) := rfl
theorem aCpy_b {h : Mm} {p q n0 n1 n d : Nat} (hp : h.kd p = some (.inr (.byte, n0)) ∨ h.kd p = some (.inr (.array .byte, n0))) (hq : h.kd q = some (.inr (.byte, n1))) (h0 : n ≤ n0) (h1 : d + n ≤ n1) (hn : d + n < 2147483648) : aCpy h p q 0 (Int32.ofNat d) (Int32.ofNat n) = some (h.sw q (va_cpy (h.mi p) (h.mi q) 0 d n)) := by
  unfold aCpy
  have e : cpyK (h.kd p) (h.kd q) = some (n0, n1) := by
    rcases hp with hp | hp <;> rw [hp, hq] <;> rfl
  rw [e]
  show (if (0 : Int32) < 0 ∨ Int32.ofNat d < 0 ∨ Int32.ofNat n < 0 ∨ n0 < (0 : Int32).toNatClampNeg + (Int32.ofNat n).toNatClampNeg ∨ n1 < (Int32.ofNat d).toNatClampNeg + (Int32.ofNat n).toNatClampNeg then none else some (h.sw q (va_cpy (h.mi p) (h.mi q) (0 : Int32).toNatClampNeg (Int32.ofNat d).toNatClampNeg (Int32.ofNat n).toNatClampNeg))) = _
  rw [i32_nat (by omega), i32_nat (by omega), ix_0, if_neg]
  intro hc
  rcases hc with hc | hc | hc | hc | hc
  · exact absurd hc (by decide)
  · exact i32_0n (by omega) hc
  · exact i32_0n (by omega) hc
  · omega
  · omega
theorem m_361 {h : Mm} {v cap nc : Nat} (hk : h.kd v = some (.inr (.byte, cap))) (hv : v < h.sz) (h1 : cap < nc) (h2 : nc ≤ 10000) : dM PG 361 [.ref v, .int (Int32.ofNat nc)] h = some (.inl (some (.ref h.sz)), (h.nw (some (.inr (.byte, nc))) nc).sw h.sz (upto cap (h.mi v) (fun _ => 0))) := by
  rw [dM_of (Nat.le_of_ble_eq_true rfl)]
  have z : ¬ Int32.ofNat nc = Int32.ofNat cap := i32_ne (by omega) (by omega) (by omega)
  have w : ¬ (Int32.ofNat nc < 0 ∨ 100000 < (Int32.ofNat nc).toNatClampNeg) := fun hc => hc.elim (i32_0n (by omega)) (fun hc => by rw [i32_nat (by omega)] at hc; omega)
  have n_1 : (Int32.ofNat nc).toNatClampNeg = nc := i32_nat (by omega)
  have mn : (if Int32.ofNat nc < Int32.ofNat cap then Int32.ofNat nc else Int32.ofNat cap) = Int32.ofNat cap := by
    rw [if_neg]
    rw [i32_lt (by omega) (by omega)]; omega
  have hk' : (h.nw (some (.inr (.byte, nc))) nc).kd v = some (.inr (.byte, cap)) := by rw [kd_nw', zu_o (by omega), hk]
  have hz' : (h.nw (some (.inr (.byte, nc))) nc).kd h.sz = some (.inr (.byte, nc)) := by rw [kd_nw', zu_same]
  have m1 : (h.nw (some (.inr (.byte, nc))) nc).mi v = h.mi v := by rw [mi_nw, zu_o (by omega)]
  have m2 : (h.nw (some (.inr (.byte, nc))) nc).mi h.sz = fun _ => 0 := by rw [mi_nw, zu_same]
  have g := aCpy_b (h := h.nw (some (.inr (.byte, nc))) nc) (p := v) (q := h.sz) (n := cap) (d := 0) (Or.inl hk') hz' (Nat.le_refl _) (by omega) (by omega)
  rw [m1, m2, va_upto, show Int32.ofNat 0 = 0 from rfl] at g
  have na : ∀ (P : Pg) (y fin nx a b w' : Nat) (vv : Value) (rs : List Rw) (L : Lc) (st : List Value) (t : ArrayType), dn P y ((.newarray t, nx, a, b, vv, .byte, w') :: rs) fin L (.int (Int32.ofNat nc) :: st) h = dn P y rs fin L (.ref h.sz :: st) (h.nw (some (.inr (.byte, nc))) nc) := fun P y fin nx a b w' vv rs L st t => by
    rw [g_newarray w, n_1]
  have cp : ∀ (P : Pg) (y fin nx a w' ix : Nat) (ty : FieldType) (rs : List Rw) (L : Lc) (u : Int32), dn P y ((.invokestatic ix, nx, a, 4, .int u, ty, w') :: rs) fin L [.int (Int32.ofNat cap), .int 0, .ref h.sz, .int 0, .ref v] (h.nw (some (.inr (.byte, nc))) nc) = dn P y rs fin L [] ((h.nw (some (.inr (.byte, nc))) nc).sw h.sz (upto cap (h.mi v) (fun _ => 0))) := fun P y fin nx a w' ix ty rs L u => g_cpy (by decide) g
  simp -implicitDefEqProofs only [D_361_0, k_361_0, D_361_14, k_361_14, R_361, v_iload_n, v_aload_n, v_alen, isA_0, lnA_0, g_icmp_ne, g_astore_n, g_astore_nN, g_iconst, g_min, v_cpy, g_areturn, entL, getL, setL, kL_i, kL_r, isI_s, isR_s, isJ_s, gV_s, iV_i, cs0, cs1, cs2, cs3, cs4, dn_nil, kd_si, kd_sl, kd_sw, mr_si, mr_sl, mr_sw, ml_si, ml_sw, mi_sl, hk, hk', ↓if_neg z, if_neg z, na, mn, cp]
