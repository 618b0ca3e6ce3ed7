-- ===== the model: the place for an item =====
theorem l_321f {s k i q : Nat} (hi : i < 80) (hk4 : k < 4) (hq : q < 3) {nb : Nat} (hn : q < nb) (hnb : nb ≤ 3) {b l : Int32} {fo : Option Nat} (hf : ∀ c, fo = some c → c < 3) {tl : Lc} (ht : tl = [] ∨ ∃ x z : Int32, tl = [some (.int x), some (.int z)]) {h : Mm} (H : MO h) (hk : h.kd s = some (.inr (.int, 1168))) (hp : h.mi 279 (8 + k) = Int32.ofNat nb) : dB PG 321 20 (some (.ref 277) :: some (.ref s) :: some (.int (Int32.ofNat i)) :: some (.int (Int32.ofNat k)) :: some (.int (oN fo)) :: some (.int b) :: some (.int l) :: some (.int (Int32.ofNat q)) :: tl) [] h = dB PG 321 98 [some (.ref 277), some (.ref s), some (.int (Int32.ofNat i)), some (.int (Int32.ofNat k)), some (.int (oN (plFit (h.mi s) k i q fo))), some (.int b), some (.int l), some (.int (Int32.ofNat q)), some (.int (h.mi s (26 + 3 * k + q))), some (.int (plOv (h.mi s) k i q))] [] h := by
  have b_1 : inb (Int32.ofNat (26 + 3 * k + q)) 1168 = true := inb_nat (by omega) (by decide)
  have n_1 : (Int32.ofNat (26 + 3 * k + q)).toNatClampNeg = 26 + 3 * k + q := i32_nat (by omega)
  have b_2 : inb (Int32.ofNat (208 + i)) 1168 = true := inb_nat (by omega) (by decide)
  have n_2 : (Int32.ofNat (208 + i)).toNatClampNeg = 208 + i := i32_nat (by omega)
  have b_3 : inb (Int32.ofNat (10 + k)) 1168 = true := inb_nat (by omega) (by decide)
  have n_3 : (Int32.ofNat (10 + k)).toNatClampNeg = 10 + k := i32_nat (by omega)
  have b_4 : inb (Int32.ofNat (8 + k)) 26 = true := inb_nat (by omega) (by decide)
  have n_4 : (Int32.ofNat (8 + k)).toNatClampNeg = 8 + k := i32_nat (by omega)
  have e0 : ¬ Int32.ofNat nb ≤ Int32.ofNat q := by rw [i32_le (by omega) (by omega)]; omega
  have ov : h.mi s (26 + 3 * k + q) + h.mi s (208 + i) - h.mi s (10 + k) = plOv (h.mi s) k i q := rfl
  have eq : oN (some q) = Int32.ofNat q := rfl
  by_cases o : inF (plOv (h.mi s) k i q) 0 (h.mi s 2) = 0
  · have e : plFit (h.mi s) k i q fo = fo := if_pos o
    rw [e]
    rcases ht with rfl | ⟨x, z, rfl⟩
    · simp -implicitDefEqProofs only [D_321_20, k_321_20, v_iload, v_aload_n, g_getfield, sv_a, rf_s, g_bipush, v_iload_n, g_iadd, v_iaload, inI_0, g_icmp_ge, v_callS2, aft_v, aft_n, g_istore, g_sipush, g_isub, g_iconst, v_callS3, g_if_eq, g_icmp_eq, entL, getL, setL, kL_i, kL_r, isI_s, isR_s, isJ_s, gV_s, iV_i, cs0, cs1, cs2, cs3, cs4, dn_nil, kd_si, kd_sl, kd_sw, mr_si, mr_sl, mr_sw, ml_si, ml_sw, mi_sl, mk_277 H, mr_11 H, mk_279 H, hk, m_172, m_136, la_8, la_208, la_10, in_2, ix_2, b_1, n_1, b_2, n_2, b_3, n_3, b_4, n_4, hp, if_neg e0, ov, o, if_true]
    · simp -implicitDefEqProofs only [D_321_20, k_321_20, v_iload, v_aload_n, g_getfield, sv_a, rf_s, g_bipush, v_iload_n, g_iadd, v_iaload, inI_0, g_icmp_ge, v_callS2, aft_v, aft_n, g_istore, g_sipush, g_isub, g_iconst, v_callS3, g_if_eq, g_icmp_eq, entL, getL, setL, kL_i, kL_r, isI_s, isR_s, isJ_s, gV_s, iV_i, cs0, cs1, cs2, cs3, cs4, dn_nil, kd_si, kd_sl, kd_sw, mr_si, mr_sl, mr_sw, ml_si, ml_sw, mi_sl, mk_277 H, mr_11 H, mk_279 H, hk, m_172, m_136, la_8, la_208, la_10, in_2, ix_2, b_1, n_1, b_2, n_2, b_3, n_3, b_4, n_4, hp, if_neg e0, ov, o, if_true]
  · cases fo with
    | none =>
      have e : plFit (h.mi s) k i q none = some q := if_neg o
      have en : oN none = -1 := rfl
      rw [e]
      rcases ht with rfl | ⟨x, z, rfl⟩
      · simp -implicitDefEqProofs only [D_321_20, k_321_20, D_321_94, k_321_94, v_iload, v_aload_n, g_getfield, sv_a, rf_s, g_bipush, v_iload_n, g_iadd, v_iaload, inI_0, g_icmp_ge, v_callS2, aft_v, aft_n, g_istore, g_sipush, g_isub, g_iconst, v_callS3, g_if_eq, g_icmp_eq, entL, getL, setL, kL_i, kL_r, isI_s, isR_s, isJ_s, gV_s, iV_i, cs0, cs1, cs2, cs3, cs4, dn_nil, kd_si, kd_sl, kd_sw, mr_si, mr_sl, mr_sw, ml_si, ml_sw, mi_sl, mk_277 H, mr_11 H, mk_279 H, hk, m_172, m_136, la_8, la_208, la_10, in_2, ix_2, b_1, n_1, b_2, n_2, b_3, n_3, b_4, n_4, hp, if_neg e0, ov, if_neg o, en, eq, if_true]
      · simp -implicitDefEqProofs only [D_321_20, k_321_20, D_321_94, k_321_94, v_iload, v_aload_n, g_getfield, sv_a, rf_s, g_bipush, v_iload_n, g_iadd, v_iaload, inI_0, g_icmp_ge, v_callS2, aft_v, aft_n, g_istore, g_sipush, g_isub, g_iconst, v_callS3, g_if_eq, g_icmp_eq, entL, getL, setL, kL_i, kL_r, isI_s, isR_s, isJ_s, gV_s, iV_i, cs0, cs1, cs2, cs3, cs4, dn_nil, kd_si, kd_sl, kd_sw, mr_si, mr_sl, mr_sw, ml_si, ml_sw, mi_sl, mk_277 H, mr_11 H, mk_279 H, hk, m_172, m_136, la_8, la_208, la_10, in_2, ix_2, b_1, n_1, b_2, n_2, b_3, n_3, b_4, n_4, hp, if_neg e0, ov, if_neg o, en, eq, if_true]
    | some c =>
      have hc := hf c rfl
      have en : oN (some c) = Int32.ofNat c := rfl
      have en2 : ¬ Int32.ofNat c = -1 := oN_s (by omega)
      have b_5 : inb (Int32.ofNat (26 + 3 * k + c)) 1168 = true := inb_nat (by omega) (by decide)
      have n_5 : (Int32.ofNat (26 + 3 * k + c)).toNatClampNeg = 26 + 3 * k + c := i32_nat (by omega)
      by_cases g : h.mi s (26 + 3 * k + q) < h.mi s (26 + 3 * k + c)
      · have g2 : ¬ h.mi s (26 + 3 * k + c) ≤ h.mi s (26 + 3 * k + q) := Int32.not_le.mpr g
        have e : plFit (h.mi s) k i q (some c) = some q := by simp [plFit, o, g]
        rw [e]
        rcases ht with rfl | ⟨x, z, rfl⟩
        · simp -implicitDefEqProofs only [D_321_20, k_321_20, D_321_94, k_321_94, v_iload, v_aload_n, g_getfield, sv_a, rf_s, g_bipush, v_iload_n, g_iadd, v_iaload, inI_0, g_icmp_ge, v_callS2, aft_v, aft_n, g_istore, g_sipush, g_isub, g_iconst, v_callS3, g_if_eq, g_icmp_eq, entL, getL, setL, kL_i, kL_r, isI_s, isR_s, isJ_s, gV_s, iV_i, cs0, cs1, cs2, cs3, cs4, dn_nil, kd_si, kd_sl, kd_sw, mr_si, mr_sl, mr_sw, ml_si, ml_sw, mi_sl, mk_277 H, mr_11 H, mk_279 H, hk, m_172, m_136, la_8, la_208, la_10, in_2, ix_2, b_1, n_1, b_2, n_2, b_3, n_3, b_4, n_4, b_5, n_5, hp, if_neg e0, ov, if_neg o, en, eq, if_neg en2, if_neg g2]
        · simp -implicitDefEqProofs only [D_321_20, k_321_20, D_321_94, k_321_94, v_iload, v_aload_n, g_getfield, sv_a, rf_s, g_bipush, v_iload_n, g_iadd, v_iaload, inI_0, g_icmp_ge, v_callS2, aft_v, aft_n, g_istore, g_sipush, g_isub, g_iconst, v_callS3, g_if_eq, g_icmp_eq, entL, getL, setL, kL_i, kL_r, isI_s, isR_s, isJ_s, gV_s, iV_i, cs0, cs1, cs2, cs3, cs4, dn_nil, kd_si, kd_sl, kd_sw, mr_si, mr_sl, mr_sw, ml_si, ml_sw, mi_sl, mk_277 H, mr_11 H, mk_279 H, hk, m_172, m_136, la_8, la_208, la_10, in_2, ix_2, b_1, n_1, b_2, n_2, b_3, n_3, b_4, n_4, b_5, n_5, hp, if_neg e0, ov, if_neg o, en, eq, if_neg en2, if_neg g2]
      · have g2 : h.mi s (26 + 3 * k + c) ≤ h.mi s (26 + 3 * k + q) := Int32.not_lt.mp g
        have e : plFit (h.mi s) k i q (some c) = some c := by simp [plFit, o, g]
        rw [e]
        rcases ht with rfl | ⟨x, z, rfl⟩
        · simp -implicitDefEqProofs only [D_321_20, k_321_20, D_321_94, k_321_94, v_iload, v_aload_n, g_getfield, sv_a, rf_s, g_bipush, v_iload_n, g_iadd, v_iaload, inI_0, g_icmp_ge, v_callS2, aft_v, aft_n, g_istore, g_sipush, g_isub, g_iconst, v_callS3, g_if_eq, g_icmp_eq, entL, getL, setL, kL_i, kL_r, isI_s, isR_s, isJ_s, gV_s, iV_i, cs0, cs1, cs2, cs3, cs4, dn_nil, kd_si, kd_sl, kd_sw, mr_si, mr_sl, mr_sw, ml_si, ml_sw, mi_sl, mk_277 H, mr_11 H, mk_279 H, hk, m_172, m_136, la_8, la_208, la_10, in_2, ix_2, b_1, n_1, b_2, n_2, b_3, n_3, b_4, n_4, b_5, n_5, hp, if_neg e0, ov, if_neg o, en, eq, if_neg en2, if_pos g2]
        · simp -implicitDefEqProofs only [D_321_20, k_321_20, D_321_94, k_321_94, v_iload, v_aload_n, g_getfield, sv_a, rf_s, g_bipush, v_iload_n, g_iadd, v_iaload, inI_0, g_icmp_ge, v_callS2, aft_v, aft_n, g_istore, g_sipush, g_isub, g_iconst, v_callS3, g_if_eq, g_icmp_eq, entL, getL, setL, kL_i, kL_r, isI_s, isR_s, isJ_s, gV_s, iV_i, cs0, cs1, cs2, cs3, cs4, dn_nil, kd_si, kd_sl, kd_sw, mr_si, mr_sl, mr_sw, ml_si, ml_sw, mi_sl, mk_277 H, mr_11 H, mk_279 H, hk, m_172, m_136, la_8, la_208, la_10, in_2, ix_2, b_1, n_1, b_2, n_2, b_3, n_3, b_4, n_4, b_5, n_5, hp, if_neg e0, ov, if_neg o, en, eq, if_neg en2, if_pos g2]
theorem plFit_lt {S : Nat → Int32} {k i q : Nat} {f : Option Nat} (hq : q < 3) (hf : ∀ c, f = some c → c < 3) : ∀ c, plFit S k i q f = some c → c < 3 := by
  intro c e
  unfold plFit at e
  split at e
  · exact hf c e
  · split at e
    · obtain rfl := Option.some.inj e; exact hq
    · split at e
      · obtain rfl := Option.some.inj e; exact hq
      · obtain rfl := Option.some.inj e; exact hf _ rfl
theorem plBel_lt {S : Nat → Int32} {k i q : Nat} {f : Option Nat} (hq : q < 3) (hf : ∀ c, f = some c → c < 3) : ∀ c, plBel S k i q f = some c → c < 3 := by
  intro c e
  unfold plBel at e
  split at e
  · split at e
    · obtain rfl := Option.some.inj e; exact hq
    · split at e
      · obtain rfl := Option.some.inj e; exact hq
      · obtain rfl := Option.some.inj e; exact hf _ rfl
  · exact hf c e
theorem plLst_lt {S : Nat → Int32} {k q l : Nat} (hq : q < 3) (hl : l < 3) : plLst S k q l < 3 := by
  unfold plLst; split
  · exact hq
  · exact hl
def plGo (S : Nat → Int32) (k i : Nat) : Nat → Nat → Option Nat → Option Nat → Nat → Option Nat × Option Nat × Nat
  | 0, _, f, b, l => (f, b, l)
  | d + 1, q, f, b, l => plGo S k i d (q + 1) (plFit S k i q f) (plBel S k i q b) (plLst S k q l)
/-- the end of it -/
def plEnd (full : Bool) (r : Option Nat × Option Nat × Nat) : Option Nat := match r with
  | (some f, _, _) => some f
  | (none, some b, _) => some b
  | (none, none, l) => if full = true then some l else none
theorem l_321 {s k i : Nat} (hi : i < 80) (hk4 : k < 4) {nb : Nat} (hnb : nb ≤ 3) {h : Mm} (H : MO h) (hk : h.kd s = some (.inr (.int, 1168))) (hp : h.mi 279 (8 + k) = Int32.ofNat nb) : ∀ (d q : Nat) (f b : Option Nat) (l : Nat) (tl : Lc), q + d = nb → (∀ c, f = some c → c < 3) → (∀ c, b = some c → c < 3) → l < 3 → (tl = [] ∨ ∃ x z : Int32, tl = [some (.int x), some (.int z)]) → dB PG 321 20 (some (.ref 277) :: some (.ref s) :: some (.int (Int32.ofNat i)) :: some (.int (Int32.ofNat k)) :: some (.int (oN f)) :: some (.int (oN b)) :: some (.int (Int32.ofNat l)) :: some (.int (Int32.ofNat q)) :: tl) [] h = some (.inl (some (.int (oN (plEnd (decide (h.mi 279 2 ≤ h.mi s 7)) (plGo (h.mi s) k i d q f b l))))), h) := by
  intro d
  induction d with
  | zero =>
    intro q f b l tl hq hf hb hl ht
    have e0 : Int32.ofNat nb ≤ Int32.ofNat q := by rw [i32_le (by omega) (by omega)]; omega
    have b_4 : inb (Int32.ofNat (8 + k)) 26 = true := inb_nat (by omega) (by decide)
    have n_4 : (Int32.ofNat (8 + k)).toNatClampNeg = 8 + k := i32_nat (by omega)
    have z : plGo (h.mi s) k i 0 q f b l = (f, b, l) := rfl
    rw [z]
    have st : dB PG 321 20 (some (.ref 277) :: some (.ref s) :: some (.int (Int32.ofNat i)) :: some (.int (Int32.ofNat k)) :: some (.int (oN f)) :: some (.int (oN b)) :: some (.int (Int32.ofNat l)) :: some (.int (Int32.ofNat q)) :: tl) [] h = dB PG 321 155 (some (.ref 277) :: some (.ref s) :: some (.int (Int32.ofNat i)) :: some (.int (Int32.ofNat k)) :: some (.int (oN f)) :: some (.int (oN b)) :: some (.int (Int32.ofNat l)) :: some (.int (Int32.ofNat q)) :: tl) [] h := by
      simp -implicitDefEqProofs only [D_321_20, k_321_20, v_iload, v_aload_n, g_getfield, sv_a, rf_s, g_bipush, v_iload_n, g_iadd, v_iaload, inI_0, g_icmp_ge, v_callS2, aft_v, aft_n, g_istore, g_sipush, g_isub, g_iconst, v_callS3, g_if_eq, g_icmp_eq, entL, getL, setL, kL_i, kL_r, isI_s, isR_s, isJ_s, gV_s, iV_i, cs0, cs1, cs2, cs3, cs4, dn_nil, kd_si, kd_sl, kd_sw, mr_si, mr_sl, mr_sw, ml_si, ml_sw, mi_sl, mk_277 H, mr_11 H, mk_279 H, la_8, b_4, n_4, hp, if_pos e0]
    rw [st]
    cases f with
    | some c =>
      have hc := hf c rfl
      have en : oN (some c) = Int32.ofNat c := rfl
      have en2 : ¬ Int32.ofNat c = -1 := oN_s (by omega)
      have y : plEnd (decide (h.mi 279 2 ≤ h.mi s 7)) (some c, b, l) = some c := rfl
      rw [y]
      simp -implicitDefEqProofs only [D_321_155, k_321_155, R_321, v_iload, g_iconst, g_icmp_eq, g_ireturn, entL, getL, setL, kL_i, kL_r, isI_s, isR_s, isJ_s, gV_s, iV_i, cs0, cs1, cs2, cs3, cs4, dn_nil, kd_si, kd_sl, kd_sw, mr_si, mr_sl, mr_sw, ml_si, ml_sw, mi_sl, en, if_neg en2, retX_int]
    | none =>
      have en0 : oN none = -1 := rfl
      cases b with
      | some c =>
        have hc := hb c rfl
        have en : oN (some c) = Int32.ofNat c := rfl
        have en2 : ¬ Int32.ofNat c = -1 := oN_s (by omega)
        have y : plEnd (decide (h.mi 279 2 ≤ h.mi s 7)) (none, some c, l) = some c := rfl
        rw [y]
        simp -implicitDefEqProofs only [D_321_155, k_321_155, D_321_164, k_321_164, R_321, v_iload, g_iconst, g_icmp_eq, g_ireturn, entL, getL, setL, kL_i, kL_r, isI_s, isR_s, isJ_s, gV_s, iV_i, cs0, cs1, cs2, cs3, cs4, dn_nil, kd_si, kd_sl, kd_sw, mr_si, mr_sl, mr_sw, ml_si, ml_sw, mi_sl, en0, en, if_true, if_neg en2, retX_int]
      | none =>
        by_cases w : h.mi 279 2 ≤ h.mi s 7
        · have y : plEnd (decide (h.mi 279 2 ≤ h.mi s 7)) (none, none, l) = some l := by simp [plEnd, w]
          have en : oN (some l) = Int32.ofNat l := rfl
          rw [y]
          simp -implicitDefEqProofs only [D_321_155, k_321_155, D_321_164, k_321_164, D_321_173, k_321_173, D_321_190, k_321_190, D_321_192, k_321_192, R_321, v_iload, g_iconst, g_icmp_eq, g_ireturn, v_aload_n, g_bipush, v_iaload, inI_0, g_getfield, sv_a, rf_s, g_icmp_ge, g_goto, entL, getL, setL, kL_i, kL_r, isI_s, isR_s, isJ_s, gV_s, iV_i, cs0, cs1, cs2, cs3, cs4, dn_nil, kd_si, kd_sl, kd_sw, mr_si, mr_sl, mr_sw, ml_si, ml_sw, mi_sl, mk_277 H, mr_11 H, mk_279 H, hk, in_7, ix_7, ip_2, ix_2, en0, en, if_true, if_pos w, retX_int]
        · have y : plEnd (decide (h.mi 279 2 ≤ h.mi s 7)) (none, none, l) = none := by simp [plEnd, w]
          rw [y]
          simp -implicitDefEqProofs only [D_321_155, k_321_155, D_321_164, k_321_164, D_321_173, k_321_173, D_321_190, k_321_190, D_321_192, k_321_192, R_321, v_iload, g_iconst, g_icmp_eq, g_ireturn, v_aload_n, g_bipush, v_iaload, inI_0, g_getfield, sv_a, rf_s, g_icmp_ge, g_goto, entL, getL, setL, kL_i, kL_r, isI_s, isR_s, isJ_s, gV_s, iV_i, cs0, cs1, cs2, cs3, cs4, dn_nil, kd_si, kd_sl, kd_sw, mr_si, mr_sl, mr_sw, ml_si, ml_sw, mi_sl, mk_277 H, mr_11 H, mk_279 H, hk, in_7, ix_7, ip_2, ix_2, en0, if_true, if_neg w, retX_int]
  | succ d ih =>
    intro q f b l tl hq hf hb hl ht
    have s1 : Int32.ofNat q + 1 = Int32.ofNat (q + 1) := i32_add (b := 1)
    have z : plGo (h.mi s) k i (d + 1) q f b l = plGo (h.mi s) k i d (q + 1) (plFit (h.mi s) k i q f) (plBel (h.mi s) k i q b) (plLst (h.mi s) k q l) := rfl
    rw [z, ← ih (q + 1) _ _ _ [some (.int (h.mi s (26 + 3 * k + q))), some (.int (plOv (h.mi s) k i q))] (by omega) (plFit_lt (by omega) hf) (plBel_lt (by omega) hb) (plLst_lt (by omega) hl) (Or.inr ⟨_, _, rfl⟩), l_321f hi hk4 (by omega) (by omega) hnb hf ht H hk hp, l_321b hk4 (by omega) hb hk, l_321c hk4 (by omega) hl hk]
    simp -implicitDefEqProofs only [D_321_149, k_321_149, v_iinc, g_goto, entL, getL, setL, kL_i, kL_r, isI_s, isR_s, isJ_s, gV_s, iV_i, cs0, cs1, cs2, cs3, cs4, dn_nil, kd_si, kd_sl, kd_sw, mr_si, mr_sl, mr_sw, ml_si, ml_sw, mi_sl, s1]
def placeF (S pl : Nat → Int32) (k i nb : Nat) : Option Nat := plEnd (decide (pl 2 ≤ S 7)) (plGo S k i nb 0 none none 0)
theorem m_321 {s k i : Nat} (hi : i < 80) (hk4 : k < 4) {nb : Nat} (hnb : nb ≤ 3) {h : Mm} (H : MO h) (hk : h.kd s = some (.inr (.int, 1168))) (hp : h.mi 279 (8 + k) = Int32.ofNat nb) (hkd : h.mi s (288 + i) = Int32.ofNat k) : dM PG 321 [.ref 277, .ref s, .int (Int32.ofNat i)] h = some (.inl (some (.int (oN (placeF (h.mi s) (h.mi 279) k i nb)))), h) := by
  rw [dM_of (Nat.le_of_ble_eq_true rfl)]
  have b_1 : inb (Int32.ofNat (288 + i)) 1168 = true := inb_nat (by omega) (by decide)
  have n_1 : (Int32.ofNat (288 + i)).toNatClampNeg = 288 + i := i32_nat (by omega)
  have g := l_321 hi hk4 hnb H hk hp nb 0 none none 0 [] (by omega) (fun c e => by cases e) (fun c e => by cases e) (by omega) (Or.inl rfl)
  simp -implicitDefEqProofs only [D_321_0, k_321_0, v_aload_n, g_sipush, v_iload_n, g_iadd, v_iaload, inI_0, g_istore_n, g_iconst, g_istore, entL, getL, setL, kL_i, kL_r, isI_s, isR_s, isJ_s, gV_s, iV_i, cs0, cs1, cs2, cs3, cs4, dn_nil, kd_si, kd_sl, kd_sw, mr_si, mr_sl, mr_sw, ml_si, ml_sw, mi_sl, hk, la_288, b_1, n_1, hkd]
  exact g
