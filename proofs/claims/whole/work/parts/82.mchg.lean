-- ===== the model: what came before is kept =====
def shH (H : Nat → Int32) : Nat → Int32 := fun j => if j < 8176 then H (j + 1168) else H j
def shI (H : Nat → Int32) (i : Nat) : Nat → Int32 := fun j => if j + 1168 < i then H (j + 1168) else H j
def remH (S H : Nat → Int32) (u : Nat) : Nat → Int32 := va_cpy S (if u = 8 then shH H else H) 0 (1168 * min u 7) 1168
theorem k286 : (286 : Nat) ≠ 277 := by decide
theorem n286 : (283 : Nat) ≠ 286 := by decide
theorem shI_st {H : Nat → Int32} {k : Nat} (h1 : 1168 ≤ k) : zu (shI H k) (k - 1168) (shI H k k) = shI H (k + 1) := by
  have e : k - 1168 + 1168 = k := by omega
  funext j
  show (if j = k - 1168 then (if k + 1168 < k then H (k + 1168) else H k) else (if j + 1168 < k then H (j + 1168) else H j)) = (if j + 1168 < k + 1 then H (j + 1168) else H j)
  by_cases c : j = k - 1168
  · rw [if_pos c, if_neg (by omega), if_pos (by omega), c, e]
  · rw [if_neg c]
    by_cases c2 : j + 1168 < k
    · rw [if_pos c2, if_pos (by omega)]
    · rw [if_neg c2, if_neg (by omega)]
theorem shI_e {H : Nat → Int32} : shI H 9344 = shH H := by
  funext j
  show (if j + 1168 < 9344 then H (j + 1168) else H j) = (if j < 8176 then H (j + 1168) else H j)
  by_cases c : j < 8176
  · rw [if_pos c, if_pos (by omega)]
  · rw [if_neg c, if_neg (by omega)]
theorem sw_si {h : Mm} {a b k : Nat} {v : Int32} {f : Nat → Int32} (hab : b ≠ a) : (h.si a k v).sw b f = (h.sw b f).si a k v := by
  show (h.1, h.2.1, zu (zu2 h.mi a k v) b f, h.ml, h.mr) = (h.1, h.2.1, zu2 (zu h.mi b f) a k v, h.ml, h.mr)
  have e : zu (zu2 h.mi a k v) b f = zu2 (zu h.mi b f) a k v := by
    funext i
    show (if i = b then f else if i = a then zu (h.mi a) k v else h.mi i) = (if i = a then zu (if a = b then f else h.mi a) k v else if i = b then f else h.mi i)
    by_cases c : i = b
    · rw [if_pos c, if_neg (by omega), if_pos c]
    · rw [if_neg c, if_neg c, if_neg (show ¬ a = b by omega)]
  rw [e]
theorem lm {P : Pg} {y pc n o : Nat} {L : Nat → Lc → Lc} {h : Nat → Mm}
    (hs : ∀ i tl, o ≤ i → i < n → ∃ tl', dB P y pc (L i tl) [] (h i) = dB P y pc (L (i + 1) tl') [] (h (i + 1))) : ∀ (d i : Nat) (tl : Lc), o ≤ i → i + d = n → ∃ tl', dB P y pc (L i tl) [] (h i) = dB P y pc (L n tl') [] (h n) := by
  intro d
  induction d with
  | zero =>
    intro i tl ho hi
    obtain rfl : i = n := by omega
    exact ⟨tl, rfl⟩
  | succ d ih =>
    intro i tl ho hi
    obtain ⟨tl', e⟩ := hs i tl ho (by omega)
    obtain ⟨tl2, e2⟩ := ih (i + 1) tl' (by omega) (by omega)
    exact ⟨tl2, e.trans e2⟩
theorem R_157 : PG.2.1 157 = none := rfl
theorem m_157a {u : Nat} (hu : u < 8) {h : Mm} (H : MO h) (h20 : h.mi 277 20 = Int32.ofNat u) : dM PG 157 [.ref 277] h = some (.inl none, (h.sw 286 (remH (h.mi 283) (h.mi 286) u)).si 277 20 (Int32.ofNat (min u 7 + 1))) := by
  rw [dM_of (Nat.le_of_ble_eq_true rfl)]
  have z : ¬ Int32.ofNat u = 8 := by
    show ¬ Int32.ofNat u = Int32.ofNat 8
    exact i32_ne (by omega) (by omega) (by omega)
  have m7 : min u 7 = u := by omega
  have l1 : (1168 : Int32) * Int32.ofNat u = Int32.ofNat (1168 * u) := i32_mul (a := 1168)
  have l0 : (0 : Int32) = Int32.ofNat 0 := rfl
  have g := m_150 (p := 283) (q := 286) (a := 0) (w := 1168 * u) (h := h) (by decide) (by decide) (show 1168 * u + 1168 ≤ 9344 by omega) (by decide) (by decide) (mk_283 H) (mk_286 H)
  rw [← l0] at g
  have n1 : (277 : Nat) ≠ 286 := by decide
  have s1 : Int32.ofNat (u) + 1 = Int32.ofNat (u + 1) := i32_add (b := 1)
  unfold remH
  rw [if_neg (by omega), m7]
  simp -implicitDefEqProofs only [D_157_0, k_157_0, D_157_54, k_157_54, R_157, v_aload_n, g_getfield, sv_i, rf_s, g_bipush, g_icmp_ne, g_sipush, g_istore_n, sv_a, g_iconst, g_imul, v_callS4, aft_v, aft_n, g_dup_i, g_dup_r, g_iadd, g_put_i, g_return, entL, getL, setL, kL_i, kL_r, isI_s, isR_s, isJ_s, gV_s, iV_i, cs0, cs1, cs2, cs3, cs4, dn_nil, kd_si, kd_sl, kd_sw, mr_si, mr_sl, mr_sw, ml_si, ml_sw, mi_sl, mk_277 H, mk_278 H, mk_279 H, mk_280 H, mk_281 H, mk_282 H, mk_283 H, mk_284 H, mk_285 H, mk_286 H, mk_287 H, mk_288 H, mk_289 H, mr_1 H, mr_11 H, mr_12 H, mr_13 H, mr_14 H, mr_15 H, mr_16 H, mr_17 H, mr_18 H, mr_19 H, mr_24 H, mr_25 H, h20, ↓if_neg z, if_neg z, l1, g, mi_swo n1, s1]
theorem m_157b {h : Mm} (H : MO h) (h20 : h.mi 277 20 = Int32.ofNat 8) : dM PG 157 [.ref 277] h = some (.inl none, (h.sw 286 (remH (h.mi 283) (h.mi 286) 8)).si 277 20 (Int32.ofNat (min 8 7 + 1))) := by
  rw [dM_of (Nat.le_of_ble_eq_true rfl)]
  have z : Int32.ofNat 8 = 8 := rfl
  have n1 : (277 : Nat) ≠ 286 := by decide
  simp -implicitDefEqProofs only [D_157_0, k_157_0, v_aload_n, g_getfield, sv_i, rf_s, g_bipush, g_icmp_ne, g_sipush, g_istore_n, entL, getL, setL, kL_i, kL_r, isI_s, isR_s, isJ_s, gV_s, iV_i, cs0, cs1, cs2, cs3, cs4, dn_nil, kd_si, kd_sl, kd_sw, mr_si, mr_sl, mr_sw, ml_si, ml_sw, mi_sl, mk_277 H, mk_278 H, mk_279 H, mk_280 H, mk_281 H, mk_282 H, mk_283 H, mk_284 H, mk_285 H, mk_286 H, mk_287 H, mk_288 H, mk_289 H, mr_1 H, mr_11 H, mr_12 H, mr_13 H, mr_14 H, mr_15 H, mr_16 H, mr_17 H, mr_18 H, mr_19 H, mr_24 H, mr_25 H, h20, z, ↓if_true, if_true]
  have hI : h.sw 286 (shI (h.mi 286) 1168) = h := by
    have : shI (h.mi 286) 1168 = h.mi 286 := by
      funext j; unfold shI; rw [if_neg (by omega)]
    rw [this, sw_id]
  obtain ⟨tl, e⟩ := lm (P := PG) (y := 157) (pc := 13) (n := 9344) (o := 1168) (h := fun i => h.sw 286 (shI (h.mi 286) i)) (L := fun k tl => some (.ref 277) :: some (.int (Int32.ofNat k)) :: tl) (by
    intro k tl h1 hk
    refine ⟨tl, ?_⟩
    have e : ¬ Int32.ofNat 9344 ≤ Int32.ofNat k := by rw [i32_le (by omega) (by omega)]; omega
    have s1 : Int32.ofNat (k) + 1 = Int32.ofNat (k + 1) := i32_add (b := 1)
    have s2 : Int32.ofNat k - 1168 = Int32.ofNat (k - 1168) := by
      obtain ⟨q, rfl⟩ := Nat.exists_eq_add_of_le h1
      rw [Nat.add_sub_cancel_left, Nat.add_comm 1168 q, ← i32_add (a := q) (b := 1168)]
      exact Int32.add_sub_cancel _ _
    have b_1 : inb (Int32.ofNat (k)) 9344 = true := inb_nat (by omega) (by decide)
    have n_1 : (Int32.ofNat (k)).toNatClampNeg = k := i32_nat (by omega)
    have b_2 : inb (Int32.ofNat (k - 1168)) 9344 = true := inb_nat (by omega) (by decide)
    have n_2 : (Int32.ofNat (k - 1168)).toNatClampNeg = k - 1168 := i32_nat (by omega)
    rw [D_157_13, ← shI_st h1]
    simp -implicitDefEqProofs only [D_157_0, k_157_0, k_157_13, D_157_44, k_157_44, D_157_54, k_157_54, R_157, v_aload_n, g_getfield, sv_i, rf_s, g_bipush, g_icmp_ne, g_sipush, g_istore_n, v_iload_n, sv_a, v_alen, isA_0, lnA_0, g_icmp_ge, g_isub, v_iaload, inI_0, v_iastore, wrI_0, v_iinc, g_goto, g_dup_i, g_dup_r, g_iconst, g_put_i, g_imul, v_callS4, aft_v, aft_n, g_iadd, g_return, entL, getL, setL, kL_i, kL_r, isI_s, isR_s, isJ_s, gV_s, iV_i, cs0, cs1, cs2, cs3, cs4, dn_nil, kd_si, kd_sl, kd_sw, mr_si, mr_sl, mr_sw, ml_si, ml_sw, mi_sl, mk_277 H, mk_278 H, mk_279 H, mk_280 H, mk_281 H, mk_282 H, mk_283 H, mk_284 H, mk_285 H, mk_286 H, mk_287 H, mk_288 H, mk_289 H, mr_1 H, mr_11 H, mr_12 H, mr_13 H, mr_14 H, mr_15 H, mr_16 H, mr_17 H, mr_18 H, mr_19 H, mr_24 H, mr_25 H, ↓if_neg e, if_neg e, s2, b_1, n_1, b_2, n_2, mi_sw, si_sw (a := 286), sw_sw, s1]) (9344 - 1168) 1168 [] (by omega) (by omega)
  rw [hI, shI_e] at e
  have ee : Int32.ofNat 9344 ≤ Int32.ofNat 9344 := by rw [i32_le (by omega) (by omega)]; omega
  have l1 : (1168 : Int32) * 7 = Int32.ofNat 8176 := by decide
  have l0 : (0 : Int32) = Int32.ofNat 0 := rfl
  have l7 : (8 : Int32) - 1 = 7 := by decide
  have l8 : (7 : Int32) + 1 = 8 := by decide
  have g := m_150 (p := 283) (q := 286) (a := 0) (w := 8176) (h := (h.sw 286 (shH (h.mi 286))).si 277 20 7) (by decide) (by decide) (by decide) (by decide) (by decide) (mk_283 H) (mk_286 H)
  have w1 : ((h.sw 286 (shH (h.mi 286))).si 277 20 7).mi 283 = h.mi 283 := (mi_sa k283).trans (mi_swo n286)
  have w2 : ((h.sw 286 (shH (h.mi 286))).si 277 20 7).mi 286 = shH (h.mi 286) := (mi_sa k286).trans mi_sw
  rw [← l0, w1, w2, sw_si k286, sw_sw] at g
  unfold remH
  rw [if_pos rfl, show 1168 * min 8 7 = 8176 from rfl, show Int32.ofNat (min 8 7 + 1) = 8 from rfl]
  refine Eq.trans ?_ (e.trans ?_)
  · rfl
  · rw [D_157_13]
    simp -implicitDefEqProofs only [D_157_0, k_157_0, k_157_13, D_157_44, k_157_44, D_157_54, k_157_54, R_157, v_aload_n, g_getfield, sv_i, rf_s, g_bipush, g_icmp_ne, g_sipush, g_istore_n, v_iload_n, sv_a, v_alen, isA_0, lnA_0, g_icmp_ge, g_isub, v_iaload, inI_0, v_iastore, wrI_0, v_iinc, g_goto, g_dup_i, g_dup_r, g_iconst, g_put_i, g_imul, v_callS4, aft_v, aft_n, g_iadd, g_return, entL, getL, setL, kL_i, kL_r, isI_s, isR_s, isJ_s, gV_s, iV_i, cs0, cs1, cs2, cs3, cs4, dn_nil, kd_si, kd_sl, kd_sw, mr_si, mr_sl, mr_sw, ml_si, ml_sw, mi_sl, mk_277 H, mk_278 H, mk_279 H, mk_280 H, mk_281 H, mk_282 H, mk_283 H, mk_284 H, mk_285 H, mk_286 H, mk_287 H, mk_288 H, mk_289 H, mr_1 H, mr_11 H, mr_12 H, mr_13 H, mr_14 H, mr_15 H, mr_16 H, mr_17 H, mr_18 H, mr_19 H, mr_24 H, mr_25 H, ↓if_pos ee, if_pos ee, mi_swo n1, h20, z, l7, mi_ss, l1, g, l8, si_si]
theorem m_157 {u : Nat} (hu : u ≤ 8) {h : Mm} (H : MO h) (h20 : h.mi 277 20 = Int32.ofNat u) : dM PG 157 [.ref 277] h = some (.inl none, (h.sw 286 (remH (h.mi 283) (h.mi 286) u)).si 277 20 (Int32.ofNat (min u 7 + 1))) := by
  by_cases c : u < 8
  · exact m_157a c H h20
  · obtain rfl : u = 8 := by omega
    exact m_157b H h20
-- the changes of one cell
theorem R_159 : PG.2.1 159 = (some .int) := rfl
theorem m_159 {cl u : Nat} (hcl : cl < 1168) (hu : u ≤ 8) {v : Int32} {h : Mm} (H : MO h) (h20 : h.mi 277 20 = Int32.ofNat u) : dM PG 159 [.ref 277, .int (Int32.ofNat cl), .int v] h = some (.inl (some (.int (h.mi 283 cl))), ((h.sw 286 (remH (h.mi 283) (h.mi 286) u)).si 277 20 (Int32.ofNat (min u 7 + 1))).sw 283 (zu (h.mi 283) cl v)) := by
  rw [dM_of (Nat.le_of_ble_eq_true rfl)]
  have b_1 : inb (Int32.ofNat (cl)) 1168 = true := inb_nat (by omega) (by decide)
  have n_1 : (Int32.ofNat (cl)).toNatClampNeg = cl := i32_nat (by omega)
  have w : ((h.sw 286 (remH (h.mi 283) (h.mi 286) u)).si 277 20 (Int32.ofNat (min u 7 + 1))).mi 283 = h.mi 283 := (mi_sa k283).trans (mi_swo n286)
  simp -implicitDefEqProofs only [D_159_0, k_159_0, R_159, v_aload_n, v_callV1, aft_v, aft_n, g_getfield, sv_a, rf_s, v_iload_n, v_iaload, inI_0, g_istore_n, v_iastore, wrI_0, g_ireturn, entL, getL, setL, kL_i, kL_r, isI_s, isR_s, isJ_s, gV_s, iV_i, cs0, cs1, cs2, cs3, cs4, dn_nil, kd_si, kd_sl, kd_sw, mr_si, mr_sl, mr_sw, ml_si, ml_sw, mi_sl, mk_277 H, mk_278 H, mk_279 H, mk_280 H, mk_281 H, mk_282 H, mk_283 H, mk_284 H, mk_285 H, mk_286 H, mk_287 H, mk_288 H, mk_289 H, mr_1 H, mr_11 H, mr_12 H, mr_13 H, mr_14 H, mr_15 H, mr_16 H, mr_17 H, mr_18 H, mr_19 H, mr_24 H, mr_25 H, m_157 hu H h20, b_1, n_1, w, si_sw (a := 283), retX_int]
/-- the model's memory after a change: what was kept, and the new row -/
def Mm.chM (h : Mm) (u : Nat) (S : Nat → Int32) : Mm := (((h.si 277 0 0).sw 286 (remH (h.mi 283) (h.mi 286) u)).si 277 20 (Int32.ofNat (min u 7 + 1))).sw 283 S
theorem m_159c {cl u : Nat} (hcl : cl < 1168) (hu : u ≤ 8) {v : Int32} {h : Mm} (H : MO h) (h20 : h.mi 277 20 = Int32.ofNat u) : dM PG 159 [.ref 277, .int (Int32.ofNat cl), .int v] (h.si 277 0 0) = some (.inl (some (.int (h.mi 283 cl))), h.chM u (zu (h.mi 283) cl v)) := by
  have g := m_159 hcl hu (v := v) (h := h.si 277 0 0) H (by rw [mi_sk (by decide), h20])
  rw [mi_sa k283, mi_sa k286] at g
  exact g
theorem R_25 : PG.2.1 25 = (some .int) := rfl
theorem m_25n {v : Int32} {h : Mm} (H : MO h) (hl : h.mi 277 21 = 0) : dM PG 25 [.ref 277, .int v] h = some (.inl (some (.int 0)), h.si 277 0 1) := by
  rw [dM_of (Nat.le_of_ble_eq_true rfl)]
  simp -implicitDefEqProofs only [D_25_0, k_25_0, R_25, v_aload_n, g_iconst, v_callV2, aft_v, aft_n, g_if_ne, g_ireturn, entL, getL, setL, kL_i, kL_r, isI_s, isR_s, isJ_s, gV_s, iV_i, cs0, cs1, cs2, cs3, cs4, dn_nil, kd_si, kd_sl, kd_sw, mr_si, mr_sl, mr_sw, ml_si, ml_sw, mi_sl, mk_277 H, mk_278 H, mk_279 H, mk_280 H, mk_281 H, mk_282 H, mk_283 H, mk_284 H, mk_285 H, mk_286 H, mk_287 H, mk_288 H, mk_289 H, mr_1 H, mr_11 H, mr_12 H, mr_13 H, mr_14 H, mr_15 H, mr_16 H, mr_17 H, mr_18 H, mr_19 H, mr_24 H, mr_25 H, m_138n H hl, ↓if_true, if_true, retX_int]
theorem m_25x {v : Int32} {h : Mm} (H : MO h) (hl : ¬ h.mi 277 21 = 0) (c : inF v 0 2 = 0) : dM PG 25 [.ref 277, .int v] h = some (.inl (some (.int 0)), h.si 277 0 2) := by
  rw [dM_of (Nat.le_of_ble_eq_true rfl)]
  simp -implicitDefEqProofs only [D_25_0, k_25_0, D_25_10, k_25_10, D_25_28, k_25_28, D_25_33, k_25_33, R_25, v_aload_n, g_iconst, v_callV2, aft_v, aft_n, g_if_ne, g_ireturn, v_iload_n, v_callS3, g_if_eq, v_callV3, g_goto, entL, getL, setL, kL_i, kL_r, isI_s, isR_s, isJ_s, gV_s, iV_i, cs0, cs1, cs2, cs3, cs4, dn_nil, kd_si, kd_sl, kd_sw, mr_si, mr_sl, mr_sw, ml_si, ml_sw, mi_sl, mk_277 H, mk_278 H, mk_279 H, mk_280 H, mk_281 H, mk_282 H, mk_283 H, mk_284 H, mk_285 H, mk_286 H, mk_287 H, mk_288 H, mk_289 H, mr_1 H, mr_11 H, mr_12 H, mr_13 H, mr_14 H, mr_15 H, mr_16 H, mr_17 H, mr_18 H, mr_19 H, mr_24 H, mr_25 H, m_138y H hl, ↓if_neg z_1, if_neg z_1, m_136, c, ↓if_true, if_true, m_156' (MO_si H), si_si, retX_int]
theorem m_25y {u : Nat} (hu : u ≤ 8) {v : Int32} {h : Mm} (H : MO h) (hl : ¬ h.mi 277 21 = 0) (c : inF v 0 2 = 1) (h20 : h.mi 277 20 = Int32.ofNat u) : dM PG 25 [.ref 277, .int v] h = some (.inl (some (.int (h.mi 283 1))), h.chM u (zu (h.mi 283) 1 v)) := by
  rw [dM_of (Nat.le_of_ble_eq_true rfl)]
  have g := m_159c (cl := 1) (by decide) hu (v := v) H h20
  have z : Int32.ofNat 1 = 1 := rfl
  rw [z] at g
  simp -implicitDefEqProofs only [D_25_0, k_25_0, D_25_10, k_25_10, D_25_28, k_25_28, D_25_33, k_25_33, R_25, v_aload_n, g_iconst, v_callV2, aft_v, aft_n, g_if_ne, g_ireturn, v_iload_n, v_callS3, g_if_eq, v_callV3, g_goto, entL, getL, setL, kL_i, kL_r, isI_s, isR_s, isJ_s, gV_s, iV_i, cs0, cs1, cs2, cs3, cs4, dn_nil, kd_si, kd_sl, kd_sw, mr_si, mr_sl, mr_sw, ml_si, ml_sw, mi_sl, mk_277 H, mk_278 H, mk_279 H, mk_280 H, mk_281 H, mk_282 H, mk_283 H, mk_284 H, mk_285 H, mk_286 H, mk_287 H, mk_288 H, mk_289 H, mr_1 H, mr_11 H, mr_12 H, mr_13 H, mr_14 H, mr_15 H, mr_16 H, mr_17 H, mr_18 H, mr_19 H, mr_24 H, mr_25 H, m_138y H hl, ↓if_neg z_1, if_neg z_1, m_136, c, g, retX_int]
theorem R_23 : PG.2.1 23 = (some .int) := rfl
theorem m_23n {v : Int32} {h : Mm} (H : MO h) (hl : h.mi 277 21 = 0) : dM PG 23 [.ref 277, .int v] h = some (.inl (some (.int 0)), h.si 277 0 1) := by
  rw [dM_of (Nat.le_of_ble_eq_true rfl)]
  simp -implicitDefEqProofs only [D_23_0, k_23_0, R_23, v_aload_n, g_iconst, v_callV2, aft_v, aft_n, g_if_ne, g_ireturn, entL, getL, setL, kL_i, kL_r, isI_s, isR_s, isJ_s, gV_s, iV_i, cs0, cs1, cs2, cs3, cs4, dn_nil, kd_si, kd_sl, kd_sw, mr_si, mr_sl, mr_sw, ml_si, ml_sw, mi_sl, mk_277 H, mk_278 H, mk_279 H, mk_280 H, mk_281 H, mk_282 H, mk_283 H, mk_284 H, mk_285 H, mk_286 H, mk_287 H, mk_288 H, mk_289 H, mr_1 H, mr_11 H, mr_12 H, mr_13 H, mr_14 H, mr_15 H, mr_16 H, mr_17 H, mr_18 H, mr_19 H, mr_24 H, mr_25 H, m_138n H hl, ↓if_true, if_true, retX_int]
theorem m_23x {v : Int32} {h : Mm} (H : MO h) (hl : ¬ h.mi 277 21 = 0) (c : inF v 0 9999 = 0) : dM PG 23 [.ref 277, .int v] h = some (.inl (some (.int 0)), h.si 277 0 2) := by
  rw [dM_of (Nat.le_of_ble_eq_true rfl)]
  simp -implicitDefEqProofs only [D_23_0, k_23_0, D_23_10, k_23_10, D_23_30, k_23_30, D_23_35, k_23_35, R_23, v_aload_n, g_iconst, v_callV2, aft_v, aft_n, g_if_ne, g_ireturn, v_iload_n, g_sipush, v_callS3, g_if_eq, v_callV3, g_goto, entL, getL, setL, kL_i, kL_r, isI_s, isR_s, isJ_s, gV_s, iV_i, cs0, cs1, cs2, cs3, cs4, dn_nil, kd_si, kd_sl, kd_sw, mr_si, mr_sl, mr_sw, ml_si, ml_sw, mi_sl, mk_277 H, mk_278 H, mk_279 H, mk_280 H, mk_281 H, mk_282 H, mk_283 H, mk_284 H, mk_285 H, mk_286 H, mk_287 H, mk_288 H, mk_289 H, mr_1 H, mr_11 H, mr_12 H, mr_13 H, mr_14 H, mr_15 H, mr_16 H, mr_17 H, mr_18 H, mr_19 H, mr_24 H, mr_25 H, m_138y H hl, ↓if_neg z_1, if_neg z_1, m_136, c, ↓if_true, if_true, m_156' (MO_si H), si_si, retX_int]
theorem m_23y {u : Nat} (hu : u ≤ 8) {v : Int32} {h : Mm} (H : MO h) (hl : ¬ h.mi 277 21 = 0) (c : inF v 0 9999 = 1) (h20 : h.mi 277 20 = Int32.ofNat u) : dM PG 23 [.ref 277, .int v] h = some (.inl (some (.int (h.mi 283 2))), h.chM u (zu (h.mi 283) 2 v)) := by
  rw [dM_of (Nat.le_of_ble_eq_true rfl)]
  have g := m_159c (cl := 2) (by decide) hu (v := v) H h20
  have z : Int32.ofNat 2 = 2 := rfl
  rw [z] at g
  simp -implicitDefEqProofs only [D_23_0, k_23_0, D_23_10, k_23_10, D_23_30, k_23_30, D_23_35, k_23_35, R_23, v_aload_n, g_iconst, v_callV2, aft_v, aft_n, g_if_ne, g_ireturn, v_iload_n, g_sipush, v_callS3, g_if_eq, v_callV3, g_goto, entL, getL, setL, kL_i, kL_r, isI_s, isR_s, isJ_s, gV_s, iV_i, cs0, cs1, cs2, cs3, cs4, dn_nil, kd_si, kd_sl, kd_sw, mr_si, mr_sl, mr_sw, ml_si, ml_sw, mi_sl, mk_277 H, mk_278 H, mk_279 H, mk_280 H, mk_281 H, mk_282 H, mk_283 H, mk_284 H, mk_285 H, mk_286 H, mk_287 H, mk_288 H, mk_289 H, mr_1 H, mr_11 H, mr_12 H, mr_13 H, mr_14 H, mr_15 H, mr_16 H, mr_17 H, mr_18 H, mr_19 H, mr_24 H, mr_25 H, m_138y H hl, ↓if_neg z_1, if_neg z_1, m_136, c, g, retX_int]
theorem R_21 : PG.2.1 21 = (some .int) := rfl
theorem m_21n {i v : Int32} {h : Mm} (H : MO h) (hl : h.mi 277 21 = 0) : dM PG 21 [.ref 277, .int i, .int v] h = some (.inl (some (.int 0)), h.si 277 0 1) := by
  rw [dM_of (Nat.le_of_ble_eq_true rfl)]
  simp -implicitDefEqProofs only [D_21_0, k_21_0, R_21, v_aload_n, v_iload_n, v_callV2, aft_v, aft_n, g_if_ne, g_iconst, g_ireturn, entL, getL, setL, kL_i, kL_r, isI_s, isR_s, isJ_s, gV_s, iV_i, cs0, cs1, cs2, cs3, cs4, dn_nil, kd_si, kd_sl, kd_sw, mr_si, mr_sl, mr_sw, ml_si, ml_sw, mi_sl, mk_277 H, mk_278 H, mk_279 H, mk_280 H, mk_281 H, mk_282 H, mk_283 H, mk_284 H, mk_285 H, mk_286 H, mk_287 H, mk_288 H, mk_289 H, mr_1 H, mr_11 H, mr_12 H, mr_13 H, mr_14 H, mr_15 H, mr_16 H, mr_17 H, mr_18 H, mr_19 H, mr_24 H, mr_25 H, m_154 H, m_138n H hl, ↓if_true, if_true, retX_int]
theorem m_21x {i v : Int32} {h : Mm} (H : MO h) (hl : ¬ h.mi 277 21 = 0) (c : inF i 0 (h.mi 279 7 - 1) = 0) : dM PG 21 [.ref 277, .int i, .int v] h = some (.inl (some (.int 0)), h.si 277 0 2) := by
  rw [dM_of (Nat.le_of_ble_eq_true rfl)]
  simp -implicitDefEqProofs only [D_21_0, k_21_0, R_21, v_aload_n, v_iload_n, v_callV2, aft_v, aft_n, g_if_ne, g_iconst, g_ireturn, entL, getL, setL, kL_i, kL_r, isI_s, isR_s, isJ_s, gV_s, iV_i, cs0, cs1, cs2, cs3, cs4, dn_nil, kd_si, kd_sl, kd_sw, mr_si, mr_sl, mr_sw, ml_si, ml_sw, mi_sl, mk_277 H, mk_278 H, mk_279 H, mk_280 H, mk_281 H, mk_282 H, mk_283 H, mk_284 H, mk_285 H, mk_286 H, mk_287 H, mk_288 H, mk_289 H, mr_1 H, mr_11 H, mr_12 H, mr_13 H, mr_14 H, mr_15 H, mr_16 H, mr_17 H, mr_18 H, mr_19 H, mr_24 H, mr_25 H, m_154 H, c, m_138x H hl, ↓if_true, if_true, retX_int]
theorem m_21z {i v : Int32} {h : Mm} (H : MO h) (hl : ¬ h.mi 277 21 = 0) (c : inF i 0 (h.mi 279 7 - 1) = 1) (c2 : inF v 1 30000 = 0) : dM PG 21 [.ref 277, .int i, .int v] h = some (.inl (some (.int 0)), h.si 277 0 3) := by
  rw [dM_of (Nat.le_of_ble_eq_true rfl)]
  simp -implicitDefEqProofs only [D_21_0, k_21_0, D_21_14, k_21_14, D_21_37, k_21_37, D_21_42, k_21_42, R_21, v_aload_n, v_iload_n, v_callV2, aft_v, aft_n, g_if_ne, g_iconst, g_ireturn, g_sipush, v_callS3, g_if_eq, g_bipush, g_iadd, v_callV3, g_goto, entL, getL, setL, kL_i, kL_r, isI_s, isR_s, isJ_s, gV_s, iV_i, cs0, cs1, cs2, cs3, cs4, dn_nil, kd_si, kd_sl, kd_sw, mr_si, mr_sl, mr_sw, ml_si, ml_sw, mi_sl, mk_277 H, mk_278 H, mk_279 H, mk_280 H, mk_281 H, mk_282 H, mk_283 H, mk_284 H, mk_285 H, mk_286 H, mk_287 H, mk_288 H, mk_289 H, mr_1 H, mr_11 H, mr_12 H, mr_13 H, mr_14 H, mr_15 H, mr_16 H, mr_17 H, mr_18 H, mr_19 H, mr_24 H, mr_25 H, m_154 H, c, m_138y H hl, ↓if_neg z_1, if_neg z_1, m_136, c2, ↓if_true, if_true, m_156' (MO_si H), si_si, retX_int]
theorem m_21y {k u : Nat} (hk : k < 4) (hu : u ≤ 8) {v : Int32} {h : Mm} (H : MO h) (hl : ¬ h.mi 277 21 = 0) (c : inF (Int32.ofNat k) 0 (h.mi 279 7 - 1) = 1) (c2 : inF v 1 30000 = 1) (h20 : h.mi 277 20 = Int32.ofNat u) : dM PG 21 [.ref 277, .int (Int32.ofNat k), .int v] h = some (.inl (some (.int (h.mi 283 (10 + k)))), h.chM u (zu (h.mi 283) (10 + k) v)) := by
  rw [dM_of (Nat.le_of_ble_eq_true rfl)]
  have g := m_159c (cl := 10 + k) (by omega) hu (v := v) H h20
  simp -implicitDefEqProofs only [D_21_0, k_21_0, D_21_14, k_21_14, D_21_37, k_21_37, D_21_42, k_21_42, R_21, v_aload_n, v_iload_n, v_callV2, aft_v, aft_n, g_if_ne, g_iconst, g_ireturn, g_sipush, v_callS3, g_if_eq, g_bipush, g_iadd, v_callV3, g_goto, entL, getL, setL, kL_i, kL_r, isI_s, isR_s, isJ_s, gV_s, iV_i, cs0, cs1, cs2, cs3, cs4, dn_nil, kd_si, kd_sl, kd_sw, mr_si, mr_sl, mr_sw, ml_si, ml_sw, mi_sl, mk_277 H, mk_278 H, mk_279 H, mk_280 H, mk_281 H, mk_282 H, mk_283 H, mk_284 H, mk_285 H, mk_286 H, mk_287 H, mk_288 H, mk_289 H, mr_1 H, mr_11 H, mr_12 H, mr_13 H, mr_14 H, mr_15 H, mr_16 H, mr_17 H, mr_18 H, mr_19 H, mr_24 H, mr_25 H, m_154 H, c, m_138y H hl, ↓if_neg z_1, if_neg z_1, m_136, c2, la_10, g, retX_int]
theorem m_157c {u : Nat} (hu : u ≤ 8) {h : Mm} (H : MO h) (h20 : h.mi 277 20 = Int32.ofNat u) : dM PG 157 [.ref 277] (h.si 277 0 0) = some (.inl none, h.chM u (h.mi 283)) := by
  have g := m_157 hu (h := h.si 277 0 0) H (by rw [mi_sk (by decide), h20])
  rw [mi_sa k283, mi_sa k286] at g
  rw [g]
  unfold Mm.chM
  have e := sw_id (h := ((h.si 277 0 0).sw 286 (remH (h.mi 283) (h.mi 286) u)).si 277 20 (Int32.ofNat (min u 7 + 1))) (a := 283)
  have w : (((h.si 277 0 0).sw 286 (remH (h.mi 283) (h.mi 286) u)).si 277 20 (Int32.ofNat (min u 7 + 1))).mi 283 = h.mi 283 := (mi_sa k283).trans ((mi_swo n286).trans (mi_sa k283))
  rw [w] at e
  rw [e]
theorem ch_sw {h : Mm} {u : Nat} {S S' : Nat → Int32} : (h.chM u S).sw 283 S' = h.chM u S' := sw_sw
theorem ch_si {h : Mm} {u k : Nat} {S : Nat → Int32} {v : Int32} : (h.chM u S).si 283 k v = h.chM u (zu S k v) := by
  rw [si_sw (a := 283)]
  have : (h.chM u S).mi 283 = S := mi_sw
  rw [this, ch_sw]
theorem ch_3 {h : Mm} {u : Nat} {S : Nat → Int32} : (h.chM u S).mi 283 = S := mi_sw
theorem ch_9 {h : Mm} {u : Nat} {S : Nat → Int32} : (h.chM u S).mi 279 = h.mi 279 := (mi_swo (by decide)).trans ((mi_sa k279).trans ((mi_swo (by decide)).trans (mi_sa k279)))
theorem ch_k {h : Mm} {u : Nat} {S : Nat → Int32} : (h.chM u S).kd = h.kd := rfl
theorem ch_r {h : Mm} {u : Nat} {S : Nat → Int32} : (h.chM u S).mr = h.mr := rfl
theorem MO_ch {h : Mm} {u : Nat} {S : Nat → Int32} (H : MO h) : MO (h.chM u S) := H
theorem R_19 : PG.2.1 19 = (some .int) := rfl
theorem m_19n {i j v : Int32} {h : Mm} (H : MO h) (hl : h.mi 277 21 = 0) : dM PG 19 [.ref 277, .int i, .int j, .int v] h = some (.inl (some (.int 0)), h.si 277 0 1) := by
  rw [dM_of (Nat.le_of_ble_eq_true rfl)]
  rcases inF_or i 0 (h.mi 279 7 - 1) with c | c
  · simp -implicitDefEqProofs only [D_19_0, k_19_0, D_19_21, k_19_21, D_19_22, k_19_22, D_19_30, k_19_30, D_19_50, k_19_50, D_19_56, k_19_56, R_19, v_aload_n, v_iload_n, v_callV2, aft_v, aft_n, g_if_eq, g_iconst, g_goto, g_if_ne, g_ireturn, g_ldc, v_callS3, v_callV4, v_callV1, g_getfield, sv_a, rf_s, g_bipush, g_iadd, g_dup2, v_iaload, inI_0, g_isub, v_iastore, wrI_0, entL, getL, setL, kL_i, kL_r, isI_s, isR_s, isJ_s, gV_s, iV_i, cs0, cs1, cs2, cs3, cs4, dn_nil, kd_si, kd_sl, kd_sw, mr_si, mr_sl, mr_sw, ml_si, ml_sw, mi_sl, mk_277 H, mk_278 H, mk_279 H, mk_280 H, mk_281 H, mk_282 H, mk_283 H, mk_284 H, mk_285 H, mk_286 H, mk_287 H, mk_288 H, mk_289 H, mr_1 H, mr_11 H, mr_12 H, mr_13 H, mr_14 H, mr_15 H, mr_16 H, mr_17 H, mr_18 H, mr_19 H, mr_24 H, mr_25 H, m_154 H, c, m_138n H hl, ↓if_true, if_true, retX_int]
  · rcases inF_or j 0 (h.mi 279 7 - 1) with c2 | c2
    · simp -implicitDefEqProofs only [D_19_0, k_19_0, D_19_21, k_19_21, D_19_22, k_19_22, D_19_30, k_19_30, D_19_50, k_19_50, D_19_56, k_19_56, R_19, v_aload_n, v_iload_n, v_callV2, aft_v, aft_n, g_if_eq, g_iconst, g_goto, g_if_ne, g_ireturn, g_ldc, v_callS3, v_callV4, v_callV1, g_getfield, sv_a, rf_s, g_bipush, g_iadd, g_dup2, v_iaload, inI_0, g_isub, v_iastore, wrI_0, entL, getL, setL, kL_i, kL_r, isI_s, isR_s, isJ_s, gV_s, iV_i, cs0, cs1, cs2, cs3, cs4, dn_nil, kd_si, kd_sl, kd_sw, mr_si, mr_sl, mr_sw, ml_si, ml_sw, mi_sl, mk_277 H, mk_278 H, mk_279 H, mk_280 H, mk_281 H, mk_282 H, mk_283 H, mk_284 H, mk_285 H, mk_286 H, mk_287 H, mk_288 H, mk_289 H, mr_1 H, mr_11 H, mr_12 H, mr_13 H, mr_14 H, mr_15 H, mr_16 H, mr_17 H, mr_18 H, mr_19 H, mr_24 H, mr_25 H, m_154 H, c, c2, m_138n H hl, ↓if_neg z_1, if_neg z_1, ↓if_true, if_true, retX_int]
    · simp -implicitDefEqProofs only [D_19_0, k_19_0, D_19_21, k_19_21, D_19_22, k_19_22, D_19_30, k_19_30, D_19_50, k_19_50, D_19_56, k_19_56, R_19, v_aload_n, v_iload_n, v_callV2, aft_v, aft_n, g_if_eq, g_iconst, g_goto, g_if_ne, g_ireturn, g_ldc, v_callS3, v_callV4, v_callV1, g_getfield, sv_a, rf_s, g_bipush, g_iadd, g_dup2, v_iaload, inI_0, g_isub, v_iastore, wrI_0, entL, getL, setL, kL_i, kL_r, isI_s, isR_s, isJ_s, gV_s, iV_i, cs0, cs1, cs2, cs3, cs4, dn_nil, kd_si, kd_sl, kd_sw, mr_si, mr_sl, mr_sw, ml_si, ml_sw, mi_sl, mk_277 H, mk_278 H, mk_279 H, mk_280 H, mk_281 H, mk_282 H, mk_283 H, mk_284 H, mk_285 H, mk_286 H, mk_287 H, mk_288 H, mk_289 H, mr_1 H, mr_11 H, mr_12 H, mr_13 H, mr_14 H, mr_15 H, mr_16 H, mr_17 H, mr_18 H, mr_19 H, mr_24 H, mr_25 H, m_154 H, c, c2, m_138n H hl, ↓if_neg z_1, if_neg z_1, ↓if_true, if_true, retX_int]
theorem m_19x {i j v : Int32} {h : Mm} (H : MO h) (hl : ¬ h.mi 277 21 = 0) (c : inF i 0 (h.mi 279 7 - 1) = 0) : dM PG 19 [.ref 277, .int i, .int j, .int v] h = some (.inl (some (.int 0)), h.si 277 0 2) := by
  rw [dM_of (Nat.le_of_ble_eq_true rfl)]
  simp -implicitDefEqProofs only [D_19_0, k_19_0, D_19_21, k_19_21, D_19_22, k_19_22, D_19_30, k_19_30, D_19_50, k_19_50, D_19_56, k_19_56, R_19, v_aload_n, v_iload_n, v_callV2, aft_v, aft_n, g_if_eq, g_iconst, g_goto, g_if_ne, g_ireturn, g_ldc, v_callS3, v_callV4, v_callV1, g_getfield, sv_a, rf_s, g_bipush, g_iadd, g_dup2, v_iaload, inI_0, g_isub, v_iastore, wrI_0, entL, getL, setL, kL_i, kL_r, isI_s, isR_s, isJ_s, gV_s, iV_i, cs0, cs1, cs2, cs3, cs4, dn_nil, kd_si, kd_sl, kd_sw, mr_si, mr_sl, mr_sw, ml_si, ml_sw, mi_sl, mk_277 H, mk_278 H, mk_279 H, mk_280 H, mk_281 H, mk_282 H, mk_283 H, mk_284 H, mk_285 H, mk_286 H, mk_287 H, mk_288 H, mk_289 H, mr_1 H, mr_11 H, mr_12 H, mr_13 H, mr_14 H, mr_15 H, mr_16 H, mr_17 H, mr_18 H, mr_19 H, mr_24 H, mr_25 H, m_154 H, c, m_138x H hl, ↓if_true, if_true, retX_int]
theorem m_19z {i j v : Int32} {h : Mm} (H : MO h) (hl : ¬ h.mi 277 21 = 0) (c : inF i 0 (h.mi 279 7 - 1) = 1) (c2 : inF j 0 (h.mi 279 7 - 1) = 0) : dM PG 19 [.ref 277, .int i, .int j, .int v] h = some (.inl (some (.int 0)), h.si 277 0 2) := by
  rw [dM_of (Nat.le_of_ble_eq_true rfl)]
  simp -implicitDefEqProofs only [D_19_0, k_19_0, D_19_21, k_19_21, D_19_22, k_19_22, D_19_30, k_19_30, D_19_50, k_19_50, D_19_56, k_19_56, R_19, v_aload_n, v_iload_n, v_callV2, aft_v, aft_n, g_if_eq, g_iconst, g_goto, g_if_ne, g_ireturn, g_ldc, v_callS3, v_callV4, v_callV1, g_getfield, sv_a, rf_s, g_bipush, g_iadd, g_dup2, v_iaload, inI_0, g_isub, v_iastore, wrI_0, entL, getL, setL, kL_i, kL_r, isI_s, isR_s, isJ_s, gV_s, iV_i, cs0, cs1, cs2, cs3, cs4, dn_nil, kd_si, kd_sl, kd_sw, mr_si, mr_sl, mr_sw, ml_si, ml_sw, mi_sl, mk_277 H, mk_278 H, mk_279 H, mk_280 H, mk_281 H, mk_282 H, mk_283 H, mk_284 H, mk_285 H, mk_286 H, mk_287 H, mk_288 H, mk_289 H, mr_1 H, mr_11 H, mr_12 H, mr_13 H, mr_14 H, mr_15 H, mr_16 H, mr_17 H, mr_18 H, mr_19 H, mr_24 H, mr_25 H, m_154 H, c, c2, m_138x H hl, ↓if_neg z_1, if_neg z_1, ↓if_true, if_true, retX_int]
theorem m_19r {i j v : Int32} {h : Mm} (H : MO h) (hl : ¬ h.mi 277 21 = 0) (c : inF i 0 (h.mi 279 7 - 1) = 1) (c2 : inF j 0 (h.mi 279 7 - 1) = 1) (c3 : inF v 1 999999 = 0) : dM PG 19 [.ref 277, .int i, .int j, .int v] h = some (.inl (some (.int 0)), h.si 277 0 3) := by
  rw [dM_of (Nat.le_of_ble_eq_true rfl)]
  simp -implicitDefEqProofs only [D_19_0, k_19_0, D_19_21, k_19_21, D_19_22, k_19_22, D_19_30, k_19_30, D_19_50, k_19_50, D_19_56, k_19_56, R_19, v_aload_n, v_iload_n, v_callV2, aft_v, aft_n, g_if_eq, g_iconst, g_goto, g_if_ne, g_ireturn, g_ldc, v_callS3, v_callV4, v_callV1, g_getfield, sv_a, rf_s, g_bipush, g_iadd, g_dup2, v_iaload, inI_0, g_isub, v_iastore, wrI_0, entL, getL, setL, kL_i, kL_r, isI_s, isR_s, isJ_s, gV_s, iV_i, cs0, cs1, cs2, cs3, cs4, dn_nil, kd_si, kd_sl, kd_sw, mr_si, mr_sl, mr_sw, ml_si, ml_sw, mi_sl, mk_277 H, mk_278 H, mk_279 H, mk_280 H, mk_281 H, mk_282 H, mk_283 H, mk_284 H, mk_285 H, mk_286 H, mk_287 H, mk_288 H, mk_289 H, mr_1 H, mr_11 H, mr_12 H, mr_13 H, mr_14 H, mr_15 H, mr_16 H, mr_17 H, mr_18 H, mr_19 H, mr_24 H, mr_25 H, m_154 H, c, c2, m_138y H hl, ↓if_neg z_1, if_neg z_1, m_136, c3, ↓if_true, if_true, m_156' (MO_si H), si_si, retX_int]
theorem m_19m {f t : Nat} (hf : f < 4) (ht : t < 4) {v : Int32} {h : Mm} (H : MO h) (hl : ¬ h.mi 277 21 = 0) (c : inF (Int32.ofNat f) 0 (h.mi 279 7 - 1) = 1) (c2 : inF (Int32.ofNat t) 0 (h.mi 279 7 - 1) = 1) (c3 : inF v 1 999999 = 1) (cm : cmM (h.mi 283) f t v = false) : dM PG 19 [.ref 277, .int (Int32.ofNat f), .int (Int32.ofNat t), .int v] h = some (.inl (some (.int 0)), h.si 277 0 3) := by
  rw [dM_of (Nat.le_of_ble_eq_true rfl)]
  have g := m_155 hf ht (x := v) (h := h.si 277 0 0) H
  rw [mi_sa k283, cm] at g
  simp -implicitDefEqProofs only [D_19_0, k_19_0, D_19_21, k_19_21, D_19_22, k_19_22, D_19_30, k_19_30, D_19_50, k_19_50, D_19_56, k_19_56, R_19, v_aload_n, v_iload_n, v_callV2, aft_v, aft_n, g_if_eq, g_iconst, g_goto, g_if_ne, g_ireturn, g_ldc, v_callS3, v_callV4, v_callV1, g_getfield, sv_a, rf_s, g_bipush, g_iadd, g_dup2, v_iaload, inI_0, g_isub, v_iastore, wrI_0, entL, getL, setL, kL_i, kL_r, isI_s, isR_s, isJ_s, gV_s, iV_i, cs0, cs1, cs2, cs3, cs4, dn_nil, kd_si, kd_sl, kd_sw, mr_si, mr_sl, mr_sw, ml_si, ml_sw, mi_sl, mk_277 H, mk_278 H, mk_279 H, mk_280 H, mk_281 H, mk_282 H, mk_283 H, mk_284 H, mk_285 H, mk_286 H, mk_287 H, mk_288 H, mk_289 H, mr_1 H, mr_11 H, mr_12 H, mr_13 H, mr_14 H, mr_15 H, mr_16 H, mr_17 H, mr_18 H, mr_19 H, mr_24 H, mr_25 H, m_154 H, c, c2, m_138y H hl, ↓if_neg z_1, if_neg z_1, m_136, c3, g, b2i_0, ↓if_true, if_true, m_156' (MO_si H), si_si, retX_int]
theorem m_19y {f t u : Nat} (hf : f < 4) (ht : t < 4) (hu : u ≤ 8) {v : Int32} {h : Mm} (H : MO h) (hl : ¬ h.mi 277 21 = 0) (c : inF (Int32.ofNat f) 0 (h.mi 279 7 - 1) = 1) (c2 : inF (Int32.ofNat t) 0 (h.mi 279 7 - 1) = 1) (c3 : inF v 1 999999 = 1) (cm : cmM (h.mi 283) f t v = true) (h20 : h.mi 277 20 = Int32.ofNat u) : dM PG 19 [.ref 277, .int (Int32.ofNat f), .int (Int32.ofNat t), .int v] h = some (.inl (some (.int (shM (h.mi 283) f t v (14 + f)))), h.chM u (shM (h.mi 283) f t v)) := by
  rw [dM_of (Nat.le_of_ble_eq_true rfl)]
  have g := m_155 hf ht (x := v) (h := h.si 277 0 0) H
  rw [mi_sa k283, cm] at g
  have b_1 : inb (Int32.ofNat (14 + f)) 1168 = true := inb_nat (by omega) (by decide)
  have n_1 : (Int32.ofNat (14 + f)).toNatClampNeg = 14 + f := i32_nat (by omega)
  have b_2 : inb (Int32.ofNat (14 + t)) 1168 = true := inb_nat (by omega) (by decide)
  have n_2 : (Int32.ofNat (14 + t)).toNatClampNeg = 14 + t := i32_nat (by omega)
  unfold shM
  simp -implicitDefEqProofs only [D_19_0, k_19_0, D_19_21, k_19_21, D_19_22, k_19_22, D_19_30, k_19_30, D_19_50, k_19_50, D_19_56, k_19_56, R_19, v_aload_n, v_iload_n, v_callV2, aft_v, aft_n, g_if_eq, g_iconst, g_goto, g_if_ne, g_ireturn, g_ldc, v_callS3, v_callV4, v_callV1, g_getfield, sv_a, rf_s, g_bipush, g_iadd, g_dup2, v_iaload, inI_0, g_isub, v_iastore, wrI_0, entL, getL, setL, kL_i, kL_r, isI_s, isR_s, isJ_s, gV_s, iV_i, cs0, cs1, cs2, cs3, cs4, dn_nil, kd_si, kd_sl, kd_sw, mr_si, mr_sl, mr_sw, ml_si, ml_sw, mi_sl, mk_277 H, mk_278 H, mk_279 H, mk_280 H, mk_281 H, mk_282 H, mk_283 H, mk_284 H, mk_285 H, mk_286 H, mk_287 H, mk_288 H, mk_289 H, mr_1 H, mr_11 H, mr_12 H, mr_13 H, mr_14 H, mr_15 H, mr_16 H, mr_17 H, mr_18 H, mr_19 H, mr_24 H, mr_25 H, m_154 H, c, c2, m_138y H hl, ↓if_neg z_1, if_neg z_1, m_136, c3, g, b2i_1, m_157c hu H h20, ch_k, ch_r, ch_si, ch_3, la_14, b_1, n_1, b_2, n_2, retX_int]
theorem R_17 : PG.2.1 17 = (some .int) := rfl
theorem m_17n {h : Mm} (H : MO h) (hl : h.mi 277 20 = 0) : dM PG 17 [.ref 277] h = some (.inl (some (.int 0)), h.si 277 0 1) := by
  rw [dM_of (Nat.le_of_ble_eq_true rfl)]
  have z : ¬ (1 : Int32) ≤ 0 := by decide
  simp -implicitDefEqProofs only [D_17_0, k_17_0, D_17_12, k_17_12, D_17_13, k_17_13, D_17_25, k_17_25, R_17, v_aload_n, g_getfield, sv_i, rf_s, g_if_ne, g_iconst, g_goto, g_put_i, g_if_le, g_ireturn, g_dup_i, g_dup_r, g_isub, sv_a, g_sipush, g_imul, v_callS4, aft_v, aft_n, entL, getL, setL, kL_i, kL_r, isI_s, isR_s, isJ_s, gV_s, iV_i, cs0, cs1, cs2, cs3, cs4, dn_nil, kd_si, kd_sl, kd_sw, mr_si, mr_sl, mr_sw, ml_si, ml_sw, mi_sl, mk_277 H, mk_278 H, mk_279 H, mk_280 H, mk_281 H, mk_282 H, mk_283 H, mk_284 H, mk_285 H, mk_286 H, mk_287 H, mk_288 H, mk_289 H, mr_1 H, mr_11 H, mr_12 H, mr_13 H, mr_14 H, mr_15 H, mr_16 H, mr_17 H, mr_18 H, mr_19 H, mr_24 H, mr_25 H, hl, ↓if_true, if_true, mi_ss, ↓if_neg z, if_neg z, retX_int]
theorem m_17y {u : Nat} (hu : u < 8) {h : Mm} (H : MO h) (h20 : h.mi 277 20 = Int32.ofNat (u + 1)) : dM PG 17 [.ref 277] h = some (.inl (some (.int (Int32.ofNat u))), ((h.si 277 0 0).si 277 20 (Int32.ofNat u)).sw 283 (va_cpy (h.mi 286) (h.mi 283) (1168 * u) 0 1168)) := by
  rw [dM_of (Nat.le_of_ble_eq_true rfl)]
  have z : ¬ Int32.ofNat (u + 1) = 0 := fun e => by
    have := (i32_z (by omega)).mp e
    omega
  have z0 : (0 : Int32) ≤ 0 := by decide
  have k1 : (20 : Nat) ≠ 0 := by decide
  have p1 : Int32.ofNat (u + 1) - 1 = Int32.ofNat u := i32_pred (i := u + 1) (by omega)
  have l1 : (1168 : Int32) * Int32.ofNat u = Int32.ofNat (1168 * u) := i32_mul (a := 1168)
  have l0 : (0 : Int32) = Int32.ofNat 0 := rfl
  have g := m_150 (p := 286) (q := 283) (a := 1168 * u) (w := 0) (h := (h.si 277 0 0).si 277 20 (Int32.ofNat u)) (by decide) (show 1168 * u + 1168 ≤ 9344 by omega) (by decide) (by decide) (by decide) (mk_286 H) (mk_283 H)
  rw [← l0, mi_sa k283, mi_sa k283, mi_sa k286, mi_sa k286] at g
  have n1 : (277 : Nat) ≠ 283 := by decide
  simp -implicitDefEqProofs only [D_17_0, k_17_0, D_17_12, k_17_12, D_17_13, k_17_13, D_17_25, k_17_25, R_17, v_aload_n, g_getfield, sv_i, rf_s, g_if_ne, g_iconst, g_goto, g_put_i, g_if_le, g_ireturn, g_dup_i, g_dup_r, g_isub, sv_a, g_sipush, g_imul, v_callS4, aft_v, aft_n, entL, getL, setL, kL_i, kL_r, isI_s, isR_s, isJ_s, gV_s, iV_i, cs0, cs1, cs2, cs3, cs4, dn_nil, kd_si, kd_sl, kd_sw, mr_si, mr_sl, mr_sw, ml_si, ml_sw, mi_sl, mk_277 H, mk_278 H, mk_279 H, mk_280 H, mk_281 H, mk_282 H, mk_283 H, mk_284 H, mk_285 H, mk_286 H, mk_287 H, mk_288 H, mk_289 H, mr_1 H, mr_11 H, mr_12 H, mr_13 H, mr_14 H, mr_15 H, mr_16 H, mr_17 H, mr_18 H, mr_19 H, mr_24 H, mr_25 H, h20, ↓if_neg z, if_neg z, mi_ss, ↓if_pos z0, if_pos z0, mi_sk k1, p1, l1, g, mi_swo n1, retX_int]
theorem R_13 : PG.2.1 13 = (some .int) := rfl
theorem m_13n {h : Mm} (H : MO h) (hl : h.mi 277 21 = 0) : dM PG 13 [.ref 277] h = some (.inl (some (.int 0)), h.si 277 0 1) := by
  rw [dM_of (Nat.le_of_ble_eq_true rfl)]
  simp -implicitDefEqProofs only [D_13_0, k_13_0, R_13, v_aload_n, g_iconst, v_callV2, aft_v, aft_n, g_if_ne, g_ireturn, entL, getL, setL, kL_i, kL_r, isI_s, isR_s, isJ_s, gV_s, iV_i, cs0, cs1, cs2, cs3, cs4, dn_nil, kd_si, kd_sl, kd_sw, mr_si, mr_sl, mr_sw, ml_si, ml_sw, mi_sl, mk_277 H, mk_278 H, mk_279 H, mk_280 H, mk_281 H, mk_282 H, mk_283 H, mk_284 H, mk_285 H, mk_286 H, mk_287 H, mk_288 H, mk_289 H, mr_1 H, mr_11 H, mr_12 H, mr_13 H, mr_14 H, mr_15 H, mr_16 H, mr_17 H, mr_18 H, mr_19 H, mr_24 H, mr_25 H, m_138n H hl, ↓if_true, if_true, retX_int]
theorem m_13y {h : Mm} (H : MO h) (hl : ¬ h.mi 277 21 = 0) : dM PG 13 [.ref 277] h = some (.inl (some (.int (h.mi 283 0))), ((h.si 277 0 0).sw 287 (upto 1168 (h.mi 283) (h.mi 287))).si 277 22 1) := by
  rw [dM_of (Nat.le_of_ble_eq_true rfl)]
  have l0 : (0 : Int32) = Int32.ofNat 0 := rfl
  have k287 : (287 : Nat) ≠ 277 := by decide
  have n287 : (283 : Nat) ≠ 287 := by decide
  have g := m_150 (p := 283) (q := 287) (a := 0) (w := 0) (h := h.si 277 0 0) (by decide) (by decide) (by decide) (by decide) (by decide) (mk_283 H) (mk_287 H)
  rw [← l0, mi_sa k283, mi_sa k287, va_upto] at g
  have b1 : (1 : Int32) = 0 ∨ (1 : Int32) = 1 := Or.inr rfl
  simp -implicitDefEqProofs only [D_13_0, k_13_0, D_13_10, k_13_10, R_13, v_aload_n, g_iconst, v_callV2, aft_v, aft_n, g_if_ne, g_ireturn, g_getfield, sv_a, rf_s, v_callS4, g_put_z, v_iaload, inI_0, entL, getL, setL, kL_i, kL_r, isI_s, isR_s, isJ_s, gV_s, iV_i, cs0, cs1, cs2, cs3, cs4, dn_nil, kd_si, kd_sl, kd_sw, mr_si, mr_sl, mr_sw, ml_si, ml_sw, mi_sl, mk_277 H, mk_278 H, mk_279 H, mk_280 H, mk_281 H, mk_282 H, mk_283 H, mk_284 H, mk_285 H, mk_286 H, mk_287 H, mk_288 H, mk_289 H, mr_1 H, mr_11 H, mr_12 H, mr_13 H, mr_14 H, mr_15 H, mr_16 H, mr_17 H, mr_18 H, mr_19 H, mr_24 H, mr_25 H, m_138y H hl, ↓if_neg z_1, if_neg z_1, g, b1, true_or, or_true, in_0, ix_0, mi_sa k283, mi_swo n287, retX_int]
theorem R_11 : PG.2.1 11 = (some .int) := rfl
theorem m_11n {h : Mm} (H : MO h) (hl : h.mi 277 22 = 0) : dM PG 11 [.ref 277] h = some (.inl (some (.int 0)), h.si 277 0 1) := by
  rw [dM_of (Nat.le_of_ble_eq_true rfl)]
  have z : ¬ (1 : Int32) ≤ 0 := by decide
  simp -implicitDefEqProofs only [D_11_0, k_11_0, D_11_12, k_11_12, D_11_13, k_11_13, D_11_25, k_11_25, R_11, v_aload_n, g_getfield, sv_z, rf_s, g_if_eq, g_iconst, g_goto, g_put_i, sv_i, g_if_le, g_ireturn, sv_a, v_callS4, aft_v, aft_n, v_iaload, inI_0, entL, getL, setL, kL_i, kL_r, isI_s, isR_s, isJ_s, gV_s, iV_i, cs0, cs1, cs2, cs3, cs4, dn_nil, kd_si, kd_sl, kd_sw, mr_si, mr_sl, mr_sw, ml_si, ml_sw, mi_sl, mk_277 H, mk_278 H, mk_279 H, mk_280 H, mk_281 H, mk_282 H, mk_283 H, mk_284 H, mk_285 H, mk_286 H, mk_287 H, mk_288 H, mk_289 H, mr_1 H, mr_11 H, mr_12 H, mr_13 H, mr_14 H, mr_15 H, mr_16 H, mr_17 H, mr_18 H, mr_19 H, mr_24 H, mr_25 H, hl, ↓if_true, if_true, mi_ss, ↓if_neg z, if_neg z, retX_int]
theorem m_11y {h : Mm} (H : MO h) (hl : ¬ h.mi 277 22 = 0) : dM PG 11 [.ref 277] h = some (.inl (some (.int (upto 1168 (h.mi 287) (h.mi 283) 0))), ((h.si 277 0 0).sw 283 (upto 1168 (h.mi 287) (h.mi 283))).si 277 20 0) := by
  rw [dM_of (Nat.le_of_ble_eq_true rfl)]
  have z0 : (0 : Int32) ≤ 0 := by decide
  have l0 : (0 : Int32) = Int32.ofNat 0 := rfl
  have k287 : (287 : Nat) ≠ 277 := by decide
  have g := m_150 (p := 287) (q := 283) (a := 0) (w := 0) (h := h.si 277 0 0) (by decide) (by decide) (by decide) (by decide) (by decide) (mk_287 H) (mk_283 H)
  rw [← l0, mi_sa k283, mi_sa k287, va_upto] at g
  simp -implicitDefEqProofs only [D_11_0, k_11_0, D_11_12, k_11_12, D_11_13, k_11_13, D_11_25, k_11_25, R_11, v_aload_n, g_getfield, sv_z, rf_s, g_if_eq, g_iconst, g_goto, g_put_i, sv_i, g_if_le, g_ireturn, sv_a, v_callS4, aft_v, aft_n, v_iaload, inI_0, entL, getL, setL, kL_i, kL_r, isI_s, isR_s, isJ_s, gV_s, iV_i, cs0, cs1, cs2, cs3, cs4, dn_nil, kd_si, kd_sl, kd_sw, mr_si, mr_sl, mr_sw, ml_si, ml_sw, mi_sl, mk_277 H, mk_278 H, mk_279 H, mk_280 H, mk_281 H, mk_282 H, mk_283 H, mk_284 H, mk_285 H, mk_286 H, mk_287 H, mk_288 H, mk_289 H, mr_1 H, mr_11 H, mr_12 H, mr_13 H, mr_14 H, mr_15 H, mr_16 H, mr_17 H, mr_18 H, mr_19 H, mr_24 H, mr_25 H, ↓if_neg hl, if_neg hl, mi_ss, ↓if_pos z0, if_pos z0, g, in_0, ix_0, mi_sa k283, mi_sw, retX_int]
