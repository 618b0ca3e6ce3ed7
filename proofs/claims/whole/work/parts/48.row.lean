-- ===== the model: over a state's row =====
theorem la_3 {a : Nat} : (3 : Int32) + Int32.ofNat a = Int32.ofNat (3 + a) := i32_add (a := 3)
theorem la_8 {a : Nat} : (8 : Int32) + Int32.ofNat a = Int32.ofNat (8 + a) := i32_add (a := 8)
theorem la_10 {a : Nat} : (10 : Int32) + Int32.ofNat a = Int32.ofNat (10 + a) := i32_add (a := 10)
theorem la_12 {a : Nat} : (12 : Int32) + Int32.ofNat a = Int32.ofNat (12 + a) := i32_add (a := 12)
theorem la_14 {a : Nat} : (14 : Int32) + Int32.ofNat a = Int32.ofNat (14 + a) := i32_add (a := 14)
theorem la_17 {a : Nat} : (17 : Int32) + Int32.ofNat a = Int32.ofNat (17 + a) := i32_add (a := 17)
theorem la_18 {a : Nat} : (18 : Int32) + Int32.ofNat a = Int32.ofNat (18 + a) := i32_add (a := 18)
theorem la_21 {a : Nat} : (21 : Int32) + Int32.ofNat a = Int32.ofNat (21 + a) := i32_add (a := 21)
theorem la_22 {a : Nat} : (22 : Int32) + Int32.ofNat a = Int32.ofNat (22 + a) := i32_add (a := 22)
theorem la_26 {a : Nat} : (26 : Int32) + Int32.ofNat a = Int32.ofNat (26 + a) := i32_add (a := 26)
theorem la_38 {a : Nat} : (38 : Int32) + Int32.ofNat a = Int32.ofNat (38 + a) := i32_add (a := 38)
theorem la_48 {a : Nat} : (48 : Int32) + Int32.ofNat a = Int32.ofNat (48 + a) := i32_add (a := 48)
theorem la_128 {a : Nat} : (128 : Int32) + Int32.ofNat a = Int32.ofNat (128 + a) := i32_add (a := 128)
theorem la_208 {a : Nat} : (208 : Int32) + Int32.ofNat a = Int32.ofNat (208 + a) := i32_add (a := 208)
theorem la_288 {a : Nat} : (288 : Int32) + Int32.ofNat a = Int32.ofNat (288 + a) := i32_add (a := 288)
theorem la_368 {a : Nat} : (368 : Int32) + Int32.ofNat a = Int32.ofNat (368 + a) := i32_add (a := 368)
theorem la_688 {a : Nat} : (688 : Int32) + Int32.ofNat a = Int32.ofNat (688 + a) := i32_add (a := 688)
theorem la_768 {a : Nat} : (768 : Int32) + Int32.ofNat a = Int32.ofNat (768 + a) := i32_add (a := 768)
theorem la_848 {a : Nat} : (848 : Int32) + Int32.ofNat a = Int32.ofNat (848 + a) := i32_add (a := 848)
theorem la_928 {a : Nat} : (928 : Int32) + Int32.ofNat a = Int32.ofNat (928 + a) := i32_add (a := 928)
theorem la_1008 {a : Nat} : (1008 : Int32) + Int32.ofNat a = Int32.ofNat (1008 + a) := i32_add (a := 1008)
theorem la_1088 {a : Nat} : (1088 : Int32) + Int32.ofNat a = Int32.ofNat (1088 + a) := i32_add (a := 1088)
theorem i32_mul {a b : Nat} : Int32.ofNat a * Int32.ofNat b = Int32.ofNat (a * b) := (Int32.ofNat_mul a b).symm
theorem lm_3 {a : Nat} : (3 : Int32) * Int32.ofNat a = Int32.ofNat (3 * a) := i32_mul (a := 3)
theorem lm_4 {a : Nat} : (4 : Int32) * Int32.ofNat a = Int32.ofNat (4 * a) := i32_mul (a := 4)
theorem R_172 : PG.2.1 172 = (some .int) := rfl
theorem m_172 {k p : Nat} {h : Mm} : dM PG 172 [.int (Int32.ofNat k), .int (Int32.ofNat p)] h = some (.inl (some (.int (Int32.ofNat (26 + 3 * k + p)))), h) := by
  rw [dM_of (Nat.le_of_ble_eq_true rfl)]
  simp -implicitDefEqProofs only [D_172_0, k_172_0, R_172, g_bipush, g_iconst, v_iload_n, g_imul, g_iadd, g_ireturn, entL, getL, setL, kL_i, kL_r, isI_s, isR_s, isJ_s, gV_s, iV_i, cs0, cs1, cs2, cs3, cs4, dn_nil, kd_si, kd_sl, kd_sw, mr_si, mr_sl, mr_sw, ml_si, ml_sw, mi_sl, lm_3, la_26, i32_add, retX_int]
theorem R_178 : PG.2.1 178 = (some .int) := rfl
def needF (S : Nat → Int32) (per : Int32) (b : Nat) : Int32 := (S (768 + b) * per + 99) / 100
theorem m_178 {s b : Nat} (hb : b < 80) {h : Mm} (H : MO h) (hk : h.kd s = some (.inr (.int, 1168))) : dM PG 178 [.ref 277, .ref s, .int (Int32.ofNat b)] h = some (.inl (some (.int (needF (h.mi s) (h.mi 279 3) b))), h) := by
  rw [dM_of (Nat.le_of_ble_eq_true rfl)]
  have b_1 : inb (Int32.ofNat (768 + b)) 1168 = true := inb_nat (by omega) (by decide)
  have n_1 : (Int32.ofNat (768 + b)).toNatClampNeg = 768 + b := i32_nat (by omega)
  have z : ¬ (100 : Int32) = 0 := by decide
  simp -implicitDefEqProofs only [D_178_0, k_178_0, R_178, v_aload_n, g_sipush, v_iload_n, g_iadd, v_iaload, inI_0, g_getfield, sv_a, rf_s, g_iconst, g_imul, g_bipush, g_idiv, g_ireturn, entL, getL, setL, kL_i, kL_r, isI_s, isR_s, isJ_s, gV_s, iV_i, cs0, cs1, cs2, cs3, cs4, dn_nil, kd_si, kd_sl, kd_sw, mr_si, mr_sl, mr_sw, ml_si, ml_sw, mi_sl, mk_277 H, mr_11 H, hk, mk_279 H, la_768, b_1, n_1, ip_3, ix_3, if_neg z, retX_int]
  rfl
theorem R_285 : PG.2.1 285 = (some .boolean) := rfl
def aheadB (S : Nat → Int32) (a b : Nat) : Bool := if S (1008 + a) = S (1008 + b) then decide (a < b) else decide (S (1008 + a) < S (1008 + b))
def b2i (b : Bool) : Int32 := if b = true then 1 else 0
theorem m_285 {s a b : Nat} (ha : a < 80) (hb : b < 80) {h : Mm} (hk : h.kd s = some (.inr (.int, 1168))) : dM PG 285 [.ref s, .int (Int32.ofNat a), .int (Int32.ofNat b)] h = some (.inl (some (.int (b2i (aheadB (h.mi s) a b)))), h) := by
  rw [dM_of (Nat.le_of_ble_eq_true rfl)]
  have b_1 : inb (Int32.ofNat (1008 + a)) 1168 = true := inb_nat (by omega) (by decide)
  have n_1 : (Int32.ofNat (1008 + a)).toNatClampNeg = 1008 + a := i32_nat (by omega)
  have b_2 : inb (Int32.ofNat (1008 + b)) 1168 = true := inb_nat (by omega) (by decide)
  have n_2 : (Int32.ofNat (1008 + b)).toNatClampNeg = 1008 + b := i32_nat (by omega)
  by_cases c : h.mi s (1008 + a) = h.mi s (1008 + b)
  · by_cases d : a < b
    · have e : b2i (aheadB (h.mi s) a b) = 1 := by unfold aheadB; rw [if_pos c, decide_eq_true d]; rfl
      have d2 : ¬ Int32.ofNat b ≤ Int32.ofNat a := by rw [i32_le (by omega) (by omega)]; omega
      rw [e]
      simp -implicitDefEqProofs only [D_285_0, k_285_0, D_285_42, k_285_42, D_285_51, k_285_51, D_285_52, k_285_52, R_285, v_aload_n, g_sipush, v_iload_n, g_iadd, v_iaload, inI_0, g_icmp_eq, g_icmp_ge, g_iconst, g_goto, g_ireturn, entL, getL, setL, kL_i, kL_r, isI_s, isR_s, isJ_s, gV_s, iV_i, cs0, cs1, cs2, cs3, cs4, dn_nil, kd_si, kd_sl, kd_sw, mr_si, mr_sl, mr_sw, ml_si, ml_sw, mi_sl, hk, la_1008, b_1, n_1, b_2, n_2, if_pos c, if_neg d2, rX_1]
    · have e : b2i (aheadB (h.mi s) a b) = 0 := by unfold aheadB; rw [if_pos c, decide_eq_false d]; rfl
      have d2 : Int32.ofNat b ≤ Int32.ofNat a := by rw [i32_le (by omega) (by omega)]; omega
      rw [e]
      simp -implicitDefEqProofs only [D_285_0, k_285_0, D_285_42, k_285_42, D_285_51, k_285_51, D_285_52, k_285_52, R_285, v_aload_n, g_sipush, v_iload_n, g_iadd, v_iaload, inI_0, g_icmp_eq, g_icmp_ge, g_iconst, g_goto, g_ireturn, entL, getL, setL, kL_i, kL_r, isI_s, isR_s, isJ_s, gV_s, iV_i, cs0, cs1, cs2, cs3, cs4, dn_nil, kd_si, kd_sl, kd_sw, mr_si, mr_sl, mr_sw, ml_si, ml_sw, mi_sl, hk, la_1008, b_1, n_1, b_2, n_2, if_pos c, if_pos d2, rX_0]
  · by_cases d : h.mi s (1008 + a) < h.mi s (1008 + b)
    · have e : b2i (aheadB (h.mi s) a b) = 1 := by unfold aheadB; rw [if_neg c, decide_eq_true d]; rfl
      have d2 : ¬ h.mi s (1008 + b) ≤ h.mi s (1008 + a) := Int32.not_le.mpr d
      rw [e]
      simp -implicitDefEqProofs only [D_285_0, k_285_0, D_285_38, k_285_38, D_285_52, k_285_52, R_285, v_aload_n, g_sipush, v_iload_n, g_iadd, v_iaload, inI_0, g_icmp_eq, g_icmp_ge, g_iconst, g_goto, g_ireturn, entL, getL, setL, kL_i, kL_r, isI_s, isR_s, isJ_s, gV_s, iV_i, cs0, cs1, cs2, cs3, cs4, dn_nil, kd_si, kd_sl, kd_sw, mr_si, mr_sl, mr_sw, ml_si, ml_sw, mi_sl, hk, la_1008, b_1, n_1, b_2, n_2, if_neg c, if_neg d2, rX_1]
    · have e : b2i (aheadB (h.mi s) a b) = 0 := by unfold aheadB; rw [if_neg c, decide_eq_false d]; rfl
      have d2 : h.mi s (1008 + b) ≤ h.mi s (1008 + a) := Int32.not_lt.mp d
      rw [e]
      simp -implicitDefEqProofs only [D_285_0, k_285_0, D_285_38, k_285_38, D_285_52, k_285_52, R_285, v_aload_n, g_sipush, v_iload_n, g_iadd, v_iaload, inI_0, g_icmp_eq, g_icmp_ge, g_iconst, g_goto, g_ireturn, entL, getL, setL, kL_i, kL_r, isI_s, isR_s, isJ_s, gV_s, iV_i, cs0, cs1, cs2, cs3, cs4, dn_nil, kd_si, kd_sl, kd_sw, mr_si, mr_sl, mr_sw, ml_si, ml_sw, mi_sl, hk, la_1008, b_1, n_1, b_2, n_2, if_neg c, if_pos d2, rX_0]
theorem R_208 : PG.2.1 208 = (some .int) := rfl
def oN : Option Nat → Int32
  | none => -1
  | some b => Int32.ofNat b
theorem oN_s {a : Nat} (ha : a < 2147483648) : ¬ Int32.ofNat a = -1 := by
  intro e
  have := congrArg Int32.toInt e
  rw [i32_toInt ha] at this
  have e1 : (-1 : Int32).toInt = -1 := by decide
  rw [e1] at this; omega
def nwSkip (S : Nat → Int32) (beh : Option Nat) (b : Nat) : Bool := decide (¬ S (1088 + b) = -1) || (match beh with
  | none => false
  | some a => !(aheadB S a b))
def nwPick (S : Nat → Int32) (best : Option Nat) (b : Nat) : Option Nat := match best with
  | none => some b
  | some c => if aheadB S b c = true then some b else some c
def nwStep (S : Nat → Int32) (beh best : Option Nat) (b : Nat) : Option Nat := if nwSkip S beh b = true then best else nwPick S best b
def nwGo (S : Nat → Int32) (beh : Option Nat) : Nat → Nat → Option Nat → Option Nat
  | 0, _, best => best
  | d + 1, b, best => nwGo S beh d (b + 1) (nwStep S beh best b)
theorem b2i_0 : b2i false = 0 := rfl
theorem b2i_1 : b2i true = 1 := rfl
theorem z_1 : ¬ (1 : Int32) = 0 := by decide
/-- behind the choice: the next box -/
theorem l_208c {s b : Nat} (hb : b < 80) {be : Int32} {best : Option Nat} (hc : ∀ c, best = some c → c < 80) {h : Mm} (hk : h.kd s = some (.inr (.int, 1168))) : dB PG 208 40 [some (.ref s), some (.int be), some (.int (oN best)), some (.int (Int32.ofNat b))] [] h = dB PG 208 56 [some (.ref s), some (.int be), some (.int (oN (nwPick (h.mi s) best b))), some (.int (Int32.ofNat b))] [] h := by
  cases best with
  | none =>
    have e : oN none = -1 := rfl
    have k : nwPick (h.mi s) none b = some b := rfl
    rw [k]
    simp -implicitDefEqProofs only [D_208_40, k_208_40, D_208_54, k_208_54, v_iload_n, g_iconst, g_icmp_eq, v_aload_n, v_callS3, aft_v, aft_n, g_if_eq, g_istore_n, entL, getL, setL, kL_i, kL_r, isI_s, isR_s, isJ_s, gV_s, iV_i, cs0, cs1, cs2, cs3, cs4, dn_nil, kd_si, kd_sl, kd_sw, mr_si, mr_sl, mr_sw, ml_si, ml_sw, mi_sl, e, if_true]
    rfl
  | some c =>
    have hc := hc c rfl
    have e : ¬ Int32.ofNat c = -1 := oN_s (by omega)
    have e2 : oN (some c) = Int32.ofNat c := rfl
    cases g : aheadB (h.mi s) b c with
    | false =>
      have k : nwPick (h.mi s) (some c) b = some c := by unfold nwPick; simp only [g]; rfl
      rw [k]
      simp -implicitDefEqProofs only [D_208_40, k_208_40, v_iload_n, g_iconst, g_icmp_eq, v_aload_n, v_callS3, aft_v, aft_n, g_if_eq, entL, getL, setL, kL_i, kL_r, isI_s, isR_s, isJ_s, gV_s, iV_i, cs0, cs1, cs2, cs3, cs4, dn_nil, kd_si, kd_sl, kd_sw, mr_si, mr_sl, mr_sw, ml_si, ml_sw, mi_sl, if_neg e, e2, m_285 hb hc hk, g, b2i_0, if_true]
    | true =>
      have k : nwPick (h.mi s) (some c) b = some b := by unfold nwPick; simp only [g]; rfl
      rw [k]
      simp -implicitDefEqProofs only [D_208_40, k_208_40, D_208_54, k_208_54, v_iload_n, g_iconst, g_icmp_eq, v_aload_n, v_callS3, aft_v, aft_n, g_if_eq, g_istore_n, entL, getL, setL, kL_i, kL_r, isI_s, isR_s, isJ_s, gV_s, iV_i, cs0, cs1, cs2, cs3, cs4, dn_nil, kd_si, kd_sl, kd_sw, mr_si, mr_sl, mr_sw, ml_si, ml_sw, mi_sl, if_neg e, e2, m_285 hb hc hk, g, b2i_1, if_neg z_1]
      rfl
theorem nwStep_lt {S : Nat → Int32} {beh best : Option Nat} {b : Nat} (hb : b < 80) (hc : ∀ c, best = some c → c < 80) : ∀ c, nwStep S beh best b = some c → c < 80 := by
  intro c e
  unfold nwStep at e
  split at e
  · exact hc c e
  · unfold nwPick at e
    split at e
    · obtain rfl := Option.some.inj e; exact hb
    · rename_i c' 
      split at e
      · obtain rfl := Option.some.inj e; exact hb
      · obtain rfl := Option.some.inj e; exact hc _ rfl
theorem l_208 {s n : Nat} (hn : n ≤ 80) {beh : Option Nat} (hh : ∀ a, beh = some a → a < 80) {h : Mm} (hk : h.kd s = some (.inr (.int, 1168))) (hm : h.mi s 8 = Int32.ofNat n) : ∀ (d b : Nat) (best : Option Nat), b + d = n → (∀ c, best = some c → c < 80) → dB PG 208 4 [some (.ref s), some (.int (oN beh)), some (.int (oN best)), some (.int (Int32.ofNat b))] [] h = some (.inl (some (.int (oN (nwGo (h.mi s) beh d b best)))), h) := by
  intro d
  induction d with
  | zero =>
    intro b best hb hc
    have e : Int32.ofNat n ≤ Int32.ofNat b := by rw [i32_le (by omega) (by omega)]; omega
    simp -implicitDefEqProofs only [D_208_4, k_208_4, D_208_62, k_208_62, R_208, v_iload_n, v_aload_n, g_bipush, v_iaload, inI_0, g_icmp_ge, g_sipush, g_iadd, g_iconst, g_icmp_ne, g_icmp_eq, v_callS3, aft_v, aft_n, g_if_ne, g_goto, g_ireturn, entL, getL, setL, kL_i, kL_r, isI_s, isR_s, isJ_s, gV_s, iV_i, cs0, cs1, cs2, cs3, cs4, dn_nil, kd_si, kd_sl, kd_sw, mr_si, mr_sl, mr_sw, ml_si, ml_sw, mi_sl, hk, in_8, ix_8, hm, if_pos e, retX_int]
    rfl
  | succ d ih =>
    intro b best hb hc
    have e : ¬ Int32.ofNat n ≤ Int32.ofNat b := by rw [i32_le (by omega) (by omega)]; omega
    have s1 : Int32.ofNat b + 1 = Int32.ofNat (b + 1) := i32_add (b := 1)
    have b_1 : inb (Int32.ofNat (1088 + b)) 1168 = true := inb_nat (by omega) (by decide)
    have n_1 : (Int32.ofNat (1088 + b)).toNatClampNeg = 1088 + b := i32_nat (by omega)
    have go : ∀ best' : Option Nat, (∀ c, best' = some c → c < 80) → dB PG 208 56 [some (.ref s), some (.int (oN beh)), some (.int (oN best')), some (.int (Int32.ofNat b))] [] h = some (.inl (some (.int (oN (nwGo (h.mi s) beh d (b + 1) best')))), h) := by
      intro best' hc'
      simp -implicitDefEqProofs only [D_208_56, k_208_56, v_iinc, g_goto, entL, getL, setL, kL_i, kL_r, isI_s, isR_s, isJ_s, gV_s, iV_i, cs0, cs1, cs2, cs3, cs4, dn_nil, kd_si, kd_sl, kd_sw, mr_si, mr_sl, mr_sw, ml_si, ml_sw, mi_sl, s1]
      exact ih (b + 1) best' (by omega) hc'
    have hs : nwGo (h.mi s) beh (d + 1) b best = nwGo (h.mi s) beh d (b + 1) (nwStep (h.mi s) beh best b) := rfl
    rw [hs]
    rw [← go _ (nwStep_lt (by omega) hc), D_208_4]
    by_cases w : h.mi s (1088 + b) = -1
    · cases beh with
      | none =>
        have en : oN none = -1 := rfl
        have k : nwStep (h.mi s) none best b = (nwPick (h.mi s) best b) := by
          unfold nwStep nwSkip; rw [decide_eq_false (by simpa using w)]; rfl
        rw [k, ← l_208c (by omega) hc hk]
        simp -implicitDefEqProofs only [k_208_4, v_iload_n, v_aload_n, g_bipush, v_iaload, inI_0, g_icmp_ge, g_sipush, g_iadd, g_iconst, g_icmp_ne, g_icmp_eq, v_callS3, aft_v, aft_n, g_if_ne, g_goto, entL, getL, setL, kL_i, kL_r, isI_s, isR_s, isJ_s, gV_s, iV_i, cs0, cs1, cs2, cs3, cs4, dn_nil, kd_si, kd_sl, kd_sw, mr_si, mr_sl, mr_sw, ml_si, ml_sw, mi_sl, hk, in_8, ix_8, hm, if_neg e, la_1088, b_1, n_1, if_pos w, en, if_true]
      | some a =>
        have ha := hh a rfl
        have en : oN (some a) = Int32.ofNat a := rfl
        have en2 : ¬ Int32.ofNat a = -1 := oN_s (by omega)
        cases g : aheadB (h.mi s) a b with
        | false =>
          have k : nwStep (h.mi s) (some a) best b = best := by
            simp [nwStep, nwSkip, g, w]
          rw [k]
          simp -implicitDefEqProofs only [k_208_4, v_iload_n, v_aload_n, g_bipush, v_iaload, inI_0, g_icmp_ge, g_sipush, g_iadd, g_iconst, g_icmp_ne, g_icmp_eq, v_callS3, aft_v, aft_n, g_if_ne, g_goto, entL, getL, setL, kL_i, kL_r, isI_s, isR_s, isJ_s, gV_s, iV_i, cs0, cs1, cs2, cs3, cs4, dn_nil, kd_si, kd_sl, kd_sw, mr_si, mr_sl, mr_sw, ml_si, ml_sw, mi_sl, hk, in_8, ix_8, hm, if_neg e, la_1088, b_1, n_1, if_pos w, en, if_neg en2, m_285 ha (show b < 80 by omega) hk, g, b2i_0, if_true]
        | true =>
          have k : nwStep (h.mi s) (some a) best b = (nwPick (h.mi s) best b) := by
            simp [nwStep, nwSkip, g, w]
          rw [k, ← l_208c (by omega) hc hk]
          simp -implicitDefEqProofs only [k_208_4, v_iload_n, v_aload_n, g_bipush, v_iaload, inI_0, g_icmp_ge, g_sipush, g_iadd, g_iconst, g_icmp_ne, g_icmp_eq, v_callS3, aft_v, aft_n, g_if_ne, g_goto, entL, getL, setL, kL_i, kL_r, isI_s, isR_s, isJ_s, gV_s, iV_i, cs0, cs1, cs2, cs3, cs4, dn_nil, kd_si, kd_sl, kd_sw, mr_si, mr_sl, mr_sw, ml_si, ml_sw, mi_sl, hk, in_8, ix_8, hm, if_neg e, la_1088, b_1, n_1, if_pos w, en, if_neg en2, m_285 ha (show b < 80 by omega) hk, g, b2i_1, if_neg z_1]
    · have k : nwStep (h.mi s) beh best b = best := by
        unfold nwStep nwSkip; rw [decide_eq_true w]; rfl
      rw [k]
      simp -implicitDefEqProofs only [k_208_4, v_iload_n, v_aload_n, g_bipush, v_iaload, inI_0, g_icmp_ge, g_sipush, g_iadd, g_iconst, g_icmp_ne, g_icmp_eq, v_callS3, aft_v, aft_n, g_if_ne, g_goto, entL, getL, setL, kL_i, kL_r, isI_s, isR_s, isJ_s, gV_s, iV_i, cs0, cs1, cs2, cs3, cs4, dn_nil, kd_si, kd_sl, kd_sw, mr_si, mr_sl, mr_sw, ml_si, ml_sw, mi_sl, hk, in_8, ix_8, hm, if_neg e, la_1088, b_1, n_1, if_neg w]
theorem m_208 {s n : Nat} (hn : n ≤ 80) {beh : Option Nat} (hh : ∀ a, beh = some a → a < 80) {h : Mm} (hk : h.kd s = some (.inr (.int, 1168))) (hm : h.mi s 8 = Int32.ofNat n) : dM PG 208 [.ref s, .int (oN beh)] h = some (.inl (some (.int (oN (nwGo (h.mi s) beh n 0 none)))), h) := by
  rw [dM_of (Nat.le_of_ble_eq_true rfl)]
  simp -implicitDefEqProofs only [D_208_0, k_208_0, g_iconst, g_istore_n, entL, getL, setL, kL_i, kL_r, isI_s, isR_s, isJ_s, gV_s, iV_i, cs0, cs1, cs2, cs3, cs4, dn_nil, kd_si, kd_sl, kd_sw, mr_si, mr_sl, mr_sw, ml_si, ml_sw, mi_sl]
  exact l_208 hn hh hk hm n 0 none (by omega) (fun c e => by cases e)
