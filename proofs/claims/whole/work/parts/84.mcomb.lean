-- ===== the model: a set of the pool goes into a box =====
def cbS (p : Int32) (S : Nat → Int32) (d q : Nat) : Nat → Int32 := zu (zu (lvF S d q) (48 + pit S d) 4) (128 + pit S d) p
/-- from place d - 1 down; the row and the number in the pool -/
def cbG (x p : Int32) : Nat → (Nat → Int32) × Nat → (Nat → Int32) × Nat
  | 0, a => a
  | d + 1, a => if mB x d = 0 then cbG x p d a else cbG x p d (cbS p a.1 d a.2, a.2 - 1)
theorem lvS_o {k j : Nat} {S : Nat → Int32} (hj : j ≠ 38 + k) : lvS k S j = S j := zu_o hj
theorem fl_lv {j : Nat} : ∀ (d i : Nat) (S : Nat → Int32), (j < 38 + i ∨ 38 + i + d ≤ j) → fl lvS d i S j = S j := by
  intro d
  induction d with
  | zero => intro i S _; rfl
  | succ d ih =>
    intro i S h
    show fl lvS d (i + 1) (lvS i S) j = S j
    rw [ih (i + 1) (lvS i S) (by omega), lvS_o (by omega)]
theorem lvF_o {S : Nat → Int32} {ix pc j : Nat} (h7 : j ≠ 7) (hj : j < 38 + ix ∨ 38 + pc ≤ j) (hp : 0 < pc) : lvF S ix pc j = S j := by
  unfold lvF
  rw [fl_lv _ _ _ (by omega), zu_o h7]
theorem lvF_7 {S : Nat → Int32} {ix pc : Nat} : lvF S ix pc 7 = Int32.ofNat (pc - 1) := by
  unfold lvF
  rw [fl_lv _ _ _ (by omega), zu_same]
theorem cbS_p {p : Int32} {S : Nat → Int32} {d q j : Nat} (hq : q ≤ 10) (hdq : d < q) (hj : j < d) : cbS p S d q (38 + j) = S (38 + j) := by
  unfold cbS
  rw [zu_o (by omega), zu_o (by omega), lvF_o (by omega) (by omega) (by omega)]
theorem cbS_7 {p : Int32} {S : Nat → Int32} {d q : Nat} : cbS p S d q 7 = Int32.ofNat (q - 1) := by
  unfold cbS
  rw [zu_o (by omega), zu_o (by omega), lvF_7]
theorem R_31 : PG.2.1 31 = (some .int) := rfl
theorem l_31 {x k p sm : Int32} {u : Nat} {h : Mm} (H : MO h) : ∀ (d q : Nat) (S : Nat → Int32) (tl : Lc), d ≤ q → q ≤ 10 → S 7 = Int32.ofNat q → (∀ j, j < d → inb (S (38 + j)) 80 = true) → ∃ tl', dB PG 31 56 (some (.ref 277) :: some (.int k) :: some (.int p) :: some (.int x) :: some (.int sm) :: some (.int (Int32.ofNat d - 1)) :: tl) [] (h.chM u S) = dB PG 31 110 (some (.ref 277) :: some (.int k) :: some (.int p) :: some (.int x) :: some (.int sm) :: tl') [] (h.chM u (cbG x p d (S, q)).1) := by
  intro d
  induction d with
  | zero =>
    intro q S tl _ _ _ _
    have e : Int32.ofNat 0 - 1 < 0 := by decide
    refine ⟨some (.int (Int32.ofNat 0 - 1)) :: tl, ?_⟩
    rw [D_31_56]
    simp -implicitDefEqProofs only [D_31_0, k_31_0, D_31_15, k_31_15, D_31_33, k_31_33, k_31_56, D_31_73, k_31_73, D_31_104, k_31_104, k_31_110, R_31, v_aload_n, v_iload_n, v_callV3, aft_v, aft_n, v_callV2, g_if_ne, g_iconst, g_ireturn, g_istore_n, g_icmp_ne, v_callV1, g_istore, g_getfield, sv_a, rf_s, g_bipush, v_iaload, inI_0, g_isub, v_iload, g_if_lt, g_ishr, g_iand, g_goto, g_iadd, v_iastore, wrI_0, g_sipush, v_iinc, v_callS2, g_dup2, v_callV4, entL, getL, setL, kL_i, kL_r, isI_s, isR_s, isJ_s, gV_s, iV_i, cs0, cs1, cs2, cs3, cs4, dn_nil, kd_si, kd_sl, kd_sw, mr_si, mr_sl, mr_sw, ml_si, ml_sw, mi_sl, ↓if_pos e, if_pos e]
    rfl
  | succ d ih =>
    intro q S tl hdq hq h7 hp
    have p1 : Int32.ofNat (d + 1) - 1 = Int32.ofNat d := i32_pred (i := d + 1) (by omega)
    have e : ¬ Int32.ofNat d < 0 := i32_0n (by omega)
    have s1 : Int32.ofNat d + -1 = Int32.ofNat d - 1 := (Int32.sub_eq_add_neg _ _).symm
    rw [p1]
    by_cases c : mB x d = 0
    · have c2 : x >>> (Int32.ofNat d &&& 31) &&& 1 = 0 := c
      obtain ⟨tl', e'⟩ := ih q S tl (by omega) hq h7 (fun j hj => hp j (by omega))
      have z : cbG x p (d + 1) (S, q) = cbG x p d (S, q) := if_pos c
      refine ⟨tl', ?_⟩
      rw [z, ← e', D_31_56]
      simp -implicitDefEqProofs only [D_31_0, k_31_0, D_31_15, k_31_15, D_31_33, k_31_33, k_31_56, D_31_73, k_31_73, D_31_104, k_31_104, k_31_110, R_31, v_aload_n, v_iload_n, v_callV3, aft_v, aft_n, v_callV2, g_if_ne, g_iconst, g_ireturn, g_istore_n, g_icmp_ne, v_callV1, g_istore, g_getfield, sv_a, rf_s, g_bipush, v_iaload, inI_0, g_isub, v_iload, g_if_lt, g_ishr, g_iand, g_goto, g_iadd, v_iastore, wrI_0, g_sipush, v_iinc, v_callS2, g_dup2, v_callV4, entL, getL, setL, kL_i, kL_r, isI_s, isR_s, isJ_s, gV_s, iV_i, cs0, cs1, cs2, cs3, cs4, dn_nil, kd_si, kd_sl, kd_sw, mr_si, mr_sl, mr_sw, ml_si, ml_sw, mi_sl, ↓if_neg e, if_neg e, ↓if_pos c2, if_pos c2, s1]
    · have c2 : ¬ x >>> (Int32.ofNat d &&& 31) &&& 1 = 0 := c
      obtain ⟨q1, q2⟩ := inb_80 (hp d (by omega))
      have q3 : S (38 + d) = Int32.ofNat (pit S d) := q1
      have q4 : pit S d < 80 := q2
      obtain ⟨tl', e'⟩ := ih (q - 1) (cbS p S d q) (some (.int (Int32.ofNat (pit S d))) :: tl.tail) (by omega) (by omega) cbS_7 (fun j hj => by rw [cbS_p hq (by omega) hj]; exact hp j (by omega))
      have z : cbG x p (d + 1) (S, q) = cbG x p d (cbS p S d q, q - 1) := if_neg c
      have g := m_167c (u := u) (ix := d) hq (by omega) H h7
      rw [q3] at g
      have b_1 : inb (Int32.ofNat (48 + pit S d)) 1168 = true := inb_nat (by omega) (by decide)
      have n_1 : (Int32.ofNat (48 + pit S d)).toNatClampNeg = 48 + pit S d := i32_nat (by omega)
      have b_2 : inb (Int32.ofNat (128 + pit S d)) 1168 = true := inb_nat (by omega) (by decide)
      have n_2 : (Int32.ofNat (128 + pit S d)).toNatClampNeg = 128 + pit S d := i32_nat (by omega)
      refine ⟨tl', ?_⟩
      rw [z, ← e', D_31_56]
      unfold cbS
      simp -implicitDefEqProofs only [D_31_0, k_31_0, D_31_15, k_31_15, D_31_33, k_31_33, k_31_56, D_31_73, k_31_73, D_31_104, k_31_104, k_31_110, R_31, v_aload_n, v_iload_n, v_callV3, aft_v, aft_n, v_callV2, g_if_ne, g_iconst, g_ireturn, g_istore_n, g_icmp_ne, v_callV1, g_istore, g_getfield, sv_a, rf_s, g_bipush, v_iaload, inI_0, g_isub, v_iload, g_if_lt, g_ishr, g_iand, g_goto, g_iadd, v_iastore, wrI_0, g_sipush, v_iinc, v_callS2, g_dup2, v_callV4, entL, getL, setL, kL_i, kL_r, isI_s, isR_s, isJ_s, gV_s, iV_i, cs0, cs1, cs2, cs3, cs4, dn_nil, kd_si, kd_sl, kd_sw, mr_si, mr_sl, mr_sw, ml_si, ml_sw, mi_sl, mk_277 H, mk_278 H, mk_279 H, mk_280 H, mk_281 H, mk_282 H, mk_283 H, mk_284 H, mk_285 H, mk_286 H, mk_287 H, mk_288 H, mk_289 H, mr_1 H, mr_11 H, mr_12 H, mr_13 H, mr_14 H, mr_15 H, mr_16 H, mr_17 H, mr_18 H, mr_19 H, mr_24 H, mr_25 H, ↓if_neg e, if_neg e, ↓if_neg c2, if_neg c2, g, ch_k, ch_r, ch_si, setL_0, la_48, la_128, b_1, n_1, b_2, n_2, s1]
theorem m_31n {k p : Int32} {h : Mm} (H : MO h) (hl : h.mi 277 21 = 0) {t : Int32} (g : dM PG 166 [.ref 277, .int k, .int p] h = some (.inl (some (.int t)), h)) : dM PG 31 [.ref 277, .int k, .int p] h = some (.inl (some (.int 0)), h.si 277 0 1) := by
  rw [dM_of (Nat.le_of_ble_eq_true rfl)]
  simp -implicitDefEqProofs only [D_31_0, k_31_0, R_31, v_aload_n, v_iload_n, v_callV3, aft_v, aft_n, v_callV2, g_if_ne, g_iconst, g_ireturn, entL, getL, setL, kL_i, kL_r, isI_s, isR_s, isJ_s, gV_s, iV_i, cs0, cs1, cs2, cs3, cs4, dn_nil, kd_si, kd_sl, kd_sw, mr_si, mr_sl, mr_sw, ml_si, ml_sw, mi_sl, mk_277 H, mk_278 H, mk_279 H, mk_280 H, mk_281 H, mk_282 H, mk_283 H, mk_284 H, mk_285 H, mk_286 H, mk_287 H, mk_288 H, mk_289 H, mr_1 H, mr_11 H, mr_12 H, mr_13 H, mr_14 H, mr_15 H, mr_16 H, mr_17 H, mr_18 H, mr_19 H, mr_24 H, mr_25 H, g, m_138n H hl, ↓if_true, if_true, retX_int]
theorem m_31x {k p : Int32} {h : Mm} (H : MO h) (hl : ¬ h.mi 277 21 = 0) (g : dM PG 166 [.ref 277, .int k, .int p] h = some (.inl (some (.int 0)), h)) : dM PG 31 [.ref 277, .int k, .int p] h = some (.inl (some (.int 0)), h.si 277 0 2) := by
  rw [dM_of (Nat.le_of_ble_eq_true rfl)]
  simp -implicitDefEqProofs only [D_31_0, k_31_0, R_31, v_aload_n, v_iload_n, v_callV3, aft_v, aft_n, v_callV2, g_if_ne, g_iconst, g_ireturn, entL, getL, setL, kL_i, kL_r, isI_s, isR_s, isJ_s, gV_s, iV_i, cs0, cs1, cs2, cs3, cs4, dn_nil, kd_si, kd_sl, kd_sw, mr_si, mr_sl, mr_sw, ml_si, ml_sw, mi_sl, mk_277 H, mk_278 H, mk_279 H, mk_280 H, mk_281 H, mk_282 H, mk_283 H, mk_284 H, mk_285 H, mk_286 H, mk_287 H, mk_288 H, mk_289 H, mr_1 H, mr_11 H, mr_12 H, mr_13 H, mr_14 H, mr_15 H, mr_16 H, mr_17 H, mr_18 H, mr_19 H, mr_24 H, mr_25 H, g, m_138x H hl, ↓if_true, if_true, retX_int]
theorem m_31z {pc k p : Nat} (hpc : pc ≤ 10) (hk4 : k < 4) (hp3 : p < 3) {h : Mm} (H : MO h) (hl : ¬ h.mi 277 21 = 0) (g : dM PG 166 [.ref 277, .int (Int32.ofNat k), .int (Int32.ofNat p)] h = some (.inl (some (.int 1)), h)) (h7 : h.mi 283 7 = Int32.ofNat pc) (hp : ∀ j, j < pc → inb (h.mi 283 (38 + j)) 80 = true) (hb : (fl (msT (wvF (h.mi 283) pc k) (h.mi 283 (26 + 3 * k + p)) (h.mi 283 (10 + k))) (2 ^ pc - 1) 1 (none, 0)).1 = none) : dM PG 31 [.ref 277, .int (Int32.ofNat k), .int (Int32.ofNat p)] h = some (.inl (some (.int 0)), h.si 277 0 3) := by
  rw [dM_of (Nat.le_of_ble_eq_true rfl)]
  have g2 := m_170 hpc hk4 hp3 (h := h.si 277 0 0) H (by rw [mi_sa k283, h7]) (by rw [mi_sa k283]; exact hp)
  rw [mi_sa k283, hb, show oN none = -1 from rfl] at g2
  simp -implicitDefEqProofs only [D_31_0, k_31_0, D_31_15, k_31_15, R_31, v_aload_n, v_iload_n, v_callV3, aft_v, aft_n, v_callV2, g_if_ne, g_iconst, g_ireturn, g_istore_n, g_icmp_ne, entL, getL, setL, kL_i, kL_r, isI_s, isR_s, isJ_s, gV_s, iV_i, cs0, cs1, cs2, cs3, cs4, dn_nil, kd_si, kd_sl, kd_sw, mr_si, mr_sl, mr_sw, ml_si, ml_sw, mi_sl, mk_277 H, mk_278 H, mk_279 H, mk_280 H, mk_281 H, mk_282 H, mk_283 H, mk_284 H, mk_285 H, mk_286 H, mk_287 H, mk_288 H, mk_289 H, mr_1 H, mr_11 H, mr_12 H, mr_13 H, mr_14 H, mr_15 H, mr_16 H, mr_17 H, mr_18 H, mr_19 H, mr_24 H, mr_25 H, g, m_138y H hl, ↓if_neg z_1, if_neg z_1, g2, ↓if_true, if_true, m_156' (MO_si H), si_si, retX_int]
theorem m_31y {pc k p s u n m : Nat} (hpc : pc ≤ 10) (hk4 : k < 4) (hp3 : p < 3) (hu : u ≤ 8) (hn : n < 80) (hm : m ≤ 80) (hs : s < 1024) {h : Mm} (H : MO h) (hl : ¬ h.mi 277 21 = 0) (g : dM PG 166 [.ref 277, .int (Int32.ofNat k), .int (Int32.ofNat p)] h = some (.inl (some (.int 1)), h)) (h7 : h.mi 283 7 = Int32.ofNat pc) (hp : ∀ j, j < pc → inb (h.mi 283 (38 + j)) 80 = true) (h20 : h.mi 277 20 = Int32.ofNat u) (hb : (fl (msT (wvF (h.mi 283) pc k) (h.mi 283 (26 + 3 * k + p)) (h.mi 283 (10 + k))) (2 ^ pc - 1) 1 (none, 0)).1 = some s) {S : Nat → Int32} (hS : (cbG (Int32.ofNat s) (Int32.ofNat p) pc (h.mi 283, pc)).1 = S) (h8 : S 8 = Int32.ofNat n) (h9 : S 9 = Int32.ofNat m) : dM PG 31 [.ref 277, .int (Int32.ofNat k), .int (Int32.ofNat p)] h = some (.inl (some (.int (Int32.ofNat n))), h.chM u (closeF (h.mi 279 6) (zu S (26 + 3 * k + p) (S (26 + 3 * k + p) + wvF (h.mi 283) pc k s)) k p n m)) := by
  rw [dM_of (Nat.le_of_ble_eq_true rfl)]
  have g2 := m_170 hpc hk4 hp3 (h := h.si 277 0 0) H (by rw [mi_sa k283, h7]) (by rw [mi_sa k283]; exact hp)
  rw [mi_sa k283, hb, show oN (some s) = Int32.ofNat s from rfl] at g2
  have e : ¬ Int32.ofNat s = -1 := oN_s (by omega)
  have g3 := m_171 (x := Int32.ofNat s) (y := Int32.ofNat k) hpc (h := h.chM u (h.mi 283)) H (by rw [ch_3, h7]) (by rw [ch_3]; exact hp)
  rw [ch_3] at g3
  have g4 : dM PG 171 [.ref 277, .int (Int32.ofNat s), .int (Int32.ofNat k)] (h.chM u (h.mi 283)) = some (.inl (some (.int (wvF (h.mi 283) pc k s))), h.chM u (h.mi 283)) := g3
  obtain ⟨tl', e'⟩ := l_31 (x := Int32.ofNat s) (k := Int32.ofNat k) (p := Int32.ofNat p) (sm := wvF (h.mi 283) pc k s) (u := u) H pc pc (h.mi 283) [] (Nat.le_refl _) hpc h7 hp
  rw [hS] at e'
  generalize wvF (h.mi 283) pc k s = wv at g4 e' ⊢
  simp -implicitDefEqProofs only [D_31_0, k_31_0, D_31_15, k_31_15, D_31_33, k_31_33, R_31, v_aload_n, v_iload_n, v_callV3, aft_v, aft_n, v_callV2, g_if_ne, g_iconst, g_ireturn, g_istore_n, g_icmp_ne, v_callV1, g_istore, g_getfield, sv_a, rf_s, g_bipush, v_iaload, inI_0, g_isub, entL, getL, setL, kL_i, kL_r, isI_s, isR_s, isJ_s, gV_s, iV_i, cs0, cs1, cs2, cs3, cs4, dn_nil, kd_si, kd_sl, kd_sw, mr_si, mr_sl, mr_sw, ml_si, ml_sw, mi_sl, mk_277 H, mk_278 H, mk_279 H, mk_280 H, mk_281 H, mk_282 H, mk_283 H, mk_284 H, mk_285 H, mk_286 H, mk_287 H, mk_288 H, mk_289 H, mr_1 H, mr_11 H, mr_12 H, mr_13 H, mr_14 H, mr_15 H, mr_16 H, mr_17 H, mr_18 H, mr_19 H, mr_24 H, mr_25 H, g, m_138y H hl, ↓if_neg z_1, if_neg z_1, g2, ↓if_neg e, if_neg e, m_157c hu H h20, g4, ch_k, ch_r, ch_3, in_7, ix_7, h7]
  rw [e', D_31_110]
  have b_1 : inb (Int32.ofNat (26 + 3 * k + p)) 1168 = true := inb_nat (by omega) (by decide)
  have n_1 : (Int32.ofNat (26 + 3 * k + p)).toNatClampNeg = 26 + 3 * k + p := i32_nat (by omega)
  have q := m_173 (s := 283) hk4 hp3 hn hm (h := h.chM u (zu S (26 + 3 * k + p) (S (26 + 3 * k + p) + wv))) H (by decide) (mk_283 H) (by rw [ch_3, zu_o (by omega), h8]) (by rw [ch_3, zu_o (by omega), h9])
  rw [ch_3, ch_9, ch_sw] at q
  simp -implicitDefEqProofs only [D_31_0, k_31_0, D_31_15, k_31_15, D_31_33, k_31_33, k_31_56, D_31_73, k_31_73, D_31_104, k_31_104, k_31_110, R_31, v_aload_n, v_iload_n, v_callV3, aft_v, aft_n, v_callV2, g_if_ne, g_iconst, g_ireturn, g_istore_n, g_icmp_ne, v_callV1, g_istore, g_getfield, sv_a, rf_s, g_bipush, v_iaload, inI_0, g_isub, v_iload, g_if_lt, g_ishr, g_iand, g_goto, g_iadd, v_iastore, wrI_0, g_sipush, v_iinc, v_callS2, g_dup2, v_callV4, entL, getL, setL, kL_i, kL_r, isI_s, isR_s, isJ_s, gV_s, iV_i, cs0, cs1, cs2, cs3, cs4, dn_nil, kd_si, kd_sl, kd_sw, mr_si, mr_sl, mr_sw, ml_si, ml_sw, mi_sl, mk_277 H, mk_278 H, mk_279 H, mk_280 H, mk_281 H, mk_282 H, mk_283 H, mk_284 H, mk_285 H, mk_286 H, mk_287 H, mk_288 H, mk_289 H, mr_1 H, mr_11 H, mr_12 H, mr_13 H, mr_14 H, mr_15 H, mr_16 H, mr_17 H, mr_18 H, mr_19 H, mr_24 H, mr_25 H, ch_k, ch_r, ch_3, ch_si, m_172, b_1, n_1, q, retX_int]
