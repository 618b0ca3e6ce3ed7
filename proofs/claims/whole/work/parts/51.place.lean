-- ===== the model: an item's place =====
def putA (S : Nat → Int32) (k p i : Nat) : Nat → Int32 := zu (zu (zu S (26 + 3 * k + p) (S (26 + 3 * k + p) + S (208 + i))) (48 + i) 4) (128 + i) (Int32.ofNat p)
def putF (due : Int32) (S : Nat → Int32) (k p i n m : Nat) : Nat → Int32 := if putA S k p i (26 + 3 * k + p) < putA S k p i (10 + k) then putA S k p i else closeF due (putA S k p i) k p n m
def putV (S : Nat → Int32) (k p i n : Nat) : Int32 := if putA S k p i (26 + 3 * k + p) < putA S k p i (10 + k) then -1 else Int32.ofNat n
theorem putA_lo {S : Nat → Int32} {k p i j : Nat} (hj : j < 26) : putA S k p i j = S j := by
  unfold putA
  rw [zu_ne (by omega), zu_ne (by omega), zu_ne (by omega)]
theorem R_168 : PG.2.1 168 = (some .int) := rfl
theorem m_168 {s k p n m i : Nat} (hi : i < 80) (hk4 : k < 4) (hp : p < 3) (hn : n < 80) (hm : m ≤ 80) {h : Mm} (H : MO h) (h7 : s ≠ 279) (hk : h.kd s = some (.inr (.int, 1168))) (h8 : h.mi s 8 = Int32.ofNat n) (h9 : h.mi s 9 = Int32.ofNat m) (hkd : h.mi s (288 + i) = Int32.ofNat k) : dM PG 168 [.ref 277, .ref s, .int (Int32.ofNat i), .int (Int32.ofNat p)] h = some (.inl (some (.int (putV (h.mi s) k p i n))), h.sw s (putF (h.mi 279 6) (h.mi s) k p i n m)) := by
  rw [dM_of (Nat.le_of_ble_eq_true rfl)]
  have b_1 : inb (Int32.ofNat (288 + i)) 1168 = true := inb_nat (by omega) (by decide)
  have n_1 : (Int32.ofNat (288 + i)).toNatClampNeg = 288 + i := i32_nat (by omega)
  have b_2 : inb (Int32.ofNat (208 + i)) 1168 = true := inb_nat (by omega) (by decide)
  have n_2 : (Int32.ofNat (208 + i)).toNatClampNeg = 208 + i := i32_nat (by omega)
  have b_3 : inb (Int32.ofNat (48 + i)) 1168 = true := inb_nat (by omega) (by decide)
  have n_3 : (Int32.ofNat (48 + i)).toNatClampNeg = 48 + i := i32_nat (by omega)
  have b_4 : inb (Int32.ofNat (128 + i)) 1168 = true := inb_nat (by omega) (by decide)
  have n_4 : (Int32.ofNat (128 + i)).toNatClampNeg = 128 + i := i32_nat (by omega)
  have b_5 : inb (Int32.ofNat (26 + 3 * k + p)) 1168 = true := inb_nat (by omega) (by decide)
  have n_5 : (Int32.ofNat (26 + 3 * k + p)).toNatClampNeg = 26 + 3 * k + p := i32_nat (by omega)
  have b_6 : inb (Int32.ofNat (10 + k)) 1168 = true := inb_nat (by omega) (by decide)
  have n_6 : (Int32.ofNat (10 + k)).toNatClampNeg = 10 + k := i32_nat (by omega)
  have h72 : (279 : Nat) ≠ s := fun e => h7 e.symm
  have g := m_173 (h := h.sw s (putA (h.mi s) k p i)) hk4 hp hn hm H h7 hk (by rw [mi_sw, putA_lo (by omega), h8]) (by rw [mi_sw, putA_lo (by omega), h9])
  rw [mi_sw, mi_swo h72, sw_sw] at g
  by_cases c : putA (h.mi s) k p i (26 + 3 * k + p) < putA (h.mi s) k p i (10 + k)
  · have e1 : putV (h.mi s) k p i n = -1 := if_pos c
    have e2 : putF (h.mi 279 6) (h.mi s) k p i n m = putA (h.mi s) k p i := if_pos c
    rw [e1, e2]
    unfold putA at c
    simp -implicitDefEqProofs only [D_168_0, k_168_0, D_168_71, k_168_71, D_168_72, k_168_72, R_168, v_aload_n, g_sipush, v_iload_n, g_iadd, v_iaload, inI_0, g_istore, v_iload, v_callS2, aft_v, aft_n, g_dup2, v_iastore, wrI_0, g_bipush, g_iconst, g_icmp_lt, v_callV4, g_goto, g_ireturn, entL, getL, setL, kL_i, kL_r, isI_s, isR_s, isJ_s, gV_s, iV_i, cs0, cs1, cs2, cs3, cs4, dn_nil, kd_si, kd_sl, kd_sw, mr_si, mr_sl, mr_sw, ml_si, ml_sw, mi_sl, m_172, hk, hkd, la_288, la_208, la_48, la_128, la_10, b_1, n_1, b_2, n_2, b_3, n_3, b_4, n_4, b_5, n_5, b_6, n_6, si_sw (a := s), sw_sw, mi_sw, if_pos c, retX_int]
    rfl
  · have e1 : putV (h.mi s) k p i n = Int32.ofNat n := if_neg c
    have e2 : putF (h.mi 279 6) (h.mi s) k p i n m = closeF (h.mi 279 6) (putA (h.mi s) k p i) k p n m := if_neg c
    rw [e1, e2]
    unfold putA at c g
    simp -implicitDefEqProofs only [D_168_0, k_168_0, D_168_72, k_168_72, R_168, v_aload_n, g_sipush, v_iload_n, g_iadd, v_iaload, inI_0, g_istore, v_iload, v_callS2, aft_v, aft_n, g_dup2, v_iastore, wrI_0, g_bipush, g_iconst, g_icmp_lt, v_callV4, g_goto, g_ireturn, entL, getL, setL, kL_i, kL_r, isI_s, isR_s, isJ_s, gV_s, iV_i, cs0, cs1, cs2, cs3, cs4, dn_nil, kd_si, kd_sl, kd_sw, mr_si, mr_sl, mr_sw, ml_si, ml_sw, mi_sl, m_172, mk_277 H, hk, hkd, la_288, la_208, la_48, la_128, la_10, b_1, n_1, b_2, n_2, b_3, n_3, b_4, n_4, b_5, n_5, b_6, n_6, si_sw (a := s), sw_sw, mi_sw, if_neg c, g, retX_int]
    rfl
def chB (r has other : Int32) : Bool := if r = 1 then decide (other < has) else if r = 2 then decide (has < other) else false
theorem R_346 : PG.2.1 346 = (some .boolean) := rfl
theorem m_346 {r x z : Int32} {h : Mm} : dM PG 346 [.int r, .int x, .int z] h = some (.inl (some (.int (b2i (chB r x z)))), h) := by
  rw [dM_of (Nat.le_of_ble_eq_true rfl)]
  by_cases a : r = 1
  · by_cases c : z < x
    · have e : b2i (chB r x z) = 1 := by unfold chB; rw [if_pos a, decide_eq_true c]; rfl
      have c2 : ¬ x ≤ z := Int32.not_le.mpr c
      rw [e]
      simp -implicitDefEqProofs only [D_346_0, k_346_0, D_346_33, k_346_33, R_346, v_iload_n, g_iconst, g_icmp_ne, g_icmp_le, g_goto, g_ireturn, entL, getL, setL, kL_i, kL_r, isI_s, isR_s, isJ_s, gV_s, iV_i, cs0, cs1, cs2, cs3, cs4, dn_nil, kd_si, kd_sl, kd_sw, mr_si, mr_sl, mr_sw, ml_si, ml_sw, mi_sl, if_pos a, if_neg c2, rX_1]
    · have e : b2i (chB r x z) = 0 := by unfold chB; rw [if_pos a, decide_eq_false c]; rfl
      have c2 : x ≤ z := Int32.not_lt.mp c
      rw [e]
      simp -implicitDefEqProofs only [D_346_0, k_346_0, D_346_14, k_346_14, D_346_33, k_346_33, R_346, v_iload_n, g_iconst, g_icmp_ne, g_icmp_le, g_goto, g_ireturn, entL, getL, setL, kL_i, kL_r, isI_s, isR_s, isJ_s, gV_s, iV_i, cs0, cs1, cs2, cs3, cs4, dn_nil, kd_si, kd_sl, kd_sw, mr_si, mr_sl, mr_sw, ml_si, ml_sw, mi_sl, if_pos a, if_pos c2, rX_0]
  · by_cases b : r = 2
    · by_cases c : x < z
      · have e : b2i (chB r x z) = 1 := by unfold chB; rw [if_neg a, if_pos b, decide_eq_true c]; rfl
        have c2 : ¬ z ≤ x := Int32.not_le.mpr c
        rw [e]
        simp -implicitDefEqProofs only [D_346_0, k_346_0, D_346_18, k_346_18, D_346_33, k_346_33, R_346, v_iload_n, g_iconst, g_icmp_ne, g_icmp_le, g_goto, g_icmp_ge, g_ireturn, entL, getL, setL, kL_i, kL_r, isI_s, isR_s, isJ_s, gV_s, iV_i, cs0, cs1, cs2, cs3, cs4, dn_nil, kd_si, kd_sl, kd_sw, mr_si, mr_sl, mr_sw, ml_si, ml_sw, mi_sl, if_neg a, if_pos b, if_neg c2, rX_1]
      · have e : b2i (chB r x z) = 0 := by unfold chB; rw [if_neg a, if_pos b, decide_eq_false c]; rfl
        have c2 : z ≤ x := Int32.not_lt.mp c
        rw [e]
        simp -implicitDefEqProofs only [D_346_0, k_346_0, D_346_18, k_346_18, D_346_32, k_346_32, D_346_33, k_346_33, R_346, v_iload_n, g_iconst, g_icmp_ne, g_icmp_le, g_goto, g_icmp_ge, g_ireturn, entL, getL, setL, kL_i, kL_r, isI_s, isR_s, isJ_s, gV_s, iV_i, cs0, cs1, cs2, cs3, cs4, dn_nil, kd_si, kd_sl, kd_sw, mr_si, mr_sl, mr_sw, ml_si, ml_sw, mi_sl, if_neg a, if_pos b, if_pos c2, rX_0]
    · have e : b2i (chB r x z) = 0 := by unfold chB; rw [if_neg a, if_neg b]; rfl
      rw [e]
      simp -implicitDefEqProofs only [D_346_0, k_346_0, D_346_18, k_346_18, D_346_32, k_346_32, D_346_33, k_346_33, R_346, v_iload_n, g_iconst, g_icmp_ne, g_icmp_le, g_goto, g_icmp_ge, g_ireturn, entL, getL, setL, kL_i, kL_r, isI_s, isR_s, isJ_s, gV_s, iV_i, cs0, cs1, cs2, cs3, cs4, dn_nil, kd_si, kd_sl, kd_sw, mr_si, mr_sl, mr_sw, ml_si, ml_sw, mi_sl, if_neg a, if_neg b, rX_0]
-- the place: what fits, what stays below, the least
def plOv (S : Nat → Int32) (k i q : Nat) : Int32 := S (26 + 3 * k + q) + S (208 + i) - S (10 + k)
def plFit (S : Nat → Int32) (k i q : Nat) (f : Option Nat) : Option Nat := if inF (plOv S k i q) 0 (S 2) = 0 then f else match f with
  | none => some q
  | some c => if S (26 + 3 * k + q) < S (26 + 3 * k + c) then some q else some c
def plBel (S : Nat → Int32) (k i q : Nat) (f : Option Nat) : Option Nat := if plOv S k i q < 0 then (match f with
  | none => some q
  | some c => if chB (S 1) (S (26 + 3 * k + q)) (S (26 + 3 * k + c)) = true then some q else some c) else f
def plLst (S : Nat → Int32) (k q l : Nat) : Nat := if S (26 + 3 * k + q) < S (26 + 3 * k + l) then q else l
theorem R_321 : PG.2.1 321 = (some .int) := rfl
theorem l_321c {s k i q l : Nat} (hk4 : k < 4) (hq : q < 3) (hl : l < 3) {f b ov : Int32} {h : Mm} (hk : h.kd s = some (.inr (.int, 1168))) : dB PG 321 132 [some (.ref 277), some (.ref s), some (.int (Int32.ofNat i)), some (.int (Int32.ofNat k)), some (.int f), some (.int b), some (.int (Int32.ofNat l)), some (.int (Int32.ofNat q)), some (.int (h.mi s (26 + 3 * k + q))), some (.int ov)] [] h = dB PG 321 149 [some (.ref 277), some (.ref s), some (.int (Int32.ofNat i)), some (.int (Int32.ofNat k)), some (.int f), some (.int b), some (.int (Int32.ofNat (plLst (h.mi s) k q l))), some (.int (Int32.ofNat q)), some (.int (h.mi s (26 + 3 * k + q))), some (.int ov)] [] h := by
  have b_1 : inb (Int32.ofNat (26 + 3 * k + l)) 1168 = true := inb_nat (by omega) (by decide)
  have n_1 : (Int32.ofNat (26 + 3 * k + l)).toNatClampNeg = 26 + 3 * k + l := i32_nat (by omega)
  by_cases c : h.mi s (26 + 3 * k + q) < h.mi s (26 + 3 * k + l)
  · have e : plLst (h.mi s) k q l = q := if_pos c
    have c2 : ¬ h.mi s (26 + 3 * k + l) ≤ h.mi s (26 + 3 * k + q) := Int32.not_le.mpr c
    rw [e]
    simp -implicitDefEqProofs only [D_321_132, k_321_132, v_iload, v_aload_n, v_iload_n, v_callS2, aft_v, aft_n, v_iaload, inI_0, g_icmp_ge, g_istore, entL, getL, setL, kL_i, kL_r, isI_s, isR_s, isJ_s, gV_s, iV_i, cs0, cs1, cs2, cs3, cs4, dn_nil, kd_si, kd_sl, kd_sw, mr_si, mr_sl, mr_sw, ml_si, ml_sw, mi_sl, hk, m_172, b_1, n_1, if_neg c2]
  · have e : plLst (h.mi s) k q l = l := if_neg c
    have c2 : h.mi s (26 + 3 * k + l) ≤ h.mi s (26 + 3 * k + q) := Int32.not_lt.mp c
    rw [e]
    simp -implicitDefEqProofs only [D_321_132, k_321_132, v_iload, v_aload_n, v_iload_n, v_callS2, aft_v, aft_n, v_iaload, inI_0, g_icmp_ge, g_istore, entL, getL, setL, kL_i, kL_r, isI_s, isR_s, isJ_s, gV_s, iV_i, cs0, cs1, cs2, cs3, cs4, dn_nil, kd_si, kd_sl, kd_sw, mr_si, mr_sl, mr_sw, ml_si, ml_sw, mi_sl, hk, m_172, b_1, n_1, if_pos c2]
theorem l_321b {s k i q : Nat} (hk4 : k < 4) (hq : q < 3) {f l : Int32} {bo : Option Nat} (hb : ∀ c, bo = some c → c < 3) {h : Mm} (hk : h.kd s = some (.inr (.int, 1168))) : dB PG 321 98 [some (.ref 277), some (.ref s), some (.int (Int32.ofNat i)), some (.int (Int32.ofNat k)), some (.int f), some (.int (oN bo)), some (.int l), some (.int (Int32.ofNat q)), some (.int (h.mi s (26 + 3 * k + q))), some (.int (plOv (h.mi s) k i q))] [] h = dB PG 321 132 [some (.ref 277), some (.ref s), some (.int (Int32.ofNat i)), some (.int (Int32.ofNat k)), some (.int f), some (.int (oN (plBel (h.mi s) k i q bo))), some (.int l), some (.int (Int32.ofNat q)), some (.int (h.mi s (26 + 3 * k + q))), some (.int (plOv (h.mi s) k i q))] [] h := by
  by_cases o : plOv (h.mi s) k i q < 0
  · have o2 : ¬ 0 ≤ plOv (h.mi s) k i q := Int32.not_le.mpr o
    cases bo with
    | none =>
      have e : plBel (h.mi s) k i q none = some q := if_pos o
      have en : oN none = -1 := rfl
      have eq : oN (some q) = Int32.ofNat q := rfl
      rw [e]
      simp -implicitDefEqProofs only [D_321_98, k_321_98, D_321_128, k_321_128, v_iload, g_if_ge, g_iconst, g_icmp_eq, v_aload_n, v_iaload, inI_0, v_iload_n, v_callS2, aft_v, aft_n, v_callS3, g_if_eq, g_istore, entL, getL, setL, kL_i, kL_r, isI_s, isR_s, isJ_s, gV_s, iV_i, cs0, cs1, cs2, cs3, cs4, dn_nil, kd_si, kd_sl, kd_sw, mr_si, mr_sl, mr_sw, ml_si, ml_sw, mi_sl, if_neg o2, en, eq, if_true]
    | some c =>
      have hc := hb c rfl
      have en : oN (some c) = Int32.ofNat c := rfl
      have eq : oN (some q) = Int32.ofNat q := rfl
      have en2 : ¬ Int32.ofNat c = -1 := oN_s (by omega)
      have b_1 : inb (Int32.ofNat (26 + 3 * k + c)) 1168 = true := inb_nat (by omega) (by decide)
      have n_1 : (Int32.ofNat (26 + 3 * k + c)).toNatClampNeg = 26 + 3 * k + c := i32_nat (by omega)
      cases g : chB (h.mi s 1) (h.mi s (26 + 3 * k + q)) (h.mi s (26 + 3 * k + c)) with
      | true =>
        have e : plBel (h.mi s) k i q (some c) = some q := by simp [plBel, o, g]
        rw [e]
        simp -implicitDefEqProofs only [D_321_98, k_321_98, D_321_128, k_321_128, v_iload, g_if_ge, g_iconst, g_icmp_eq, v_aload_n, v_iaload, inI_0, v_iload_n, v_callS2, aft_v, aft_n, v_callS3, g_if_eq, g_istore, entL, getL, setL, kL_i, kL_r, isI_s, isR_s, isJ_s, gV_s, iV_i, cs0, cs1, cs2, cs3, cs4, dn_nil, kd_si, kd_sl, kd_sw, mr_si, mr_sl, mr_sw, ml_si, ml_sw, mi_sl, hk, m_172, in_1, ix_1, b_1, n_1, if_neg o2, en, eq, if_neg en2, m_346, g, b2i_1, if_neg z_1]
      | false =>
        have e : plBel (h.mi s) k i q (some c) = some c := by simp [plBel, o, g]
        rw [e]
        simp -implicitDefEqProofs only [D_321_98, k_321_98, D_321_128, k_321_128, v_iload, g_if_ge, g_iconst, g_icmp_eq, v_aload_n, v_iaload, inI_0, v_iload_n, v_callS2, aft_v, aft_n, v_callS3, g_if_eq, g_istore, entL, getL, setL, kL_i, kL_r, isI_s, isR_s, isJ_s, gV_s, iV_i, cs0, cs1, cs2, cs3, cs4, dn_nil, kd_si, kd_sl, kd_sw, mr_si, mr_sl, mr_sw, ml_si, ml_sw, mi_sl, hk, m_172, in_1, ix_1, b_1, n_1, if_neg o2, en, eq, if_neg en2, m_346, g, b2i_0, if_true]
  · have o2 : 0 ≤ plOv (h.mi s) k i q := Int32.not_lt.mp o
    have e : plBel (h.mi s) k i q bo = bo := if_neg o
    rw [e]
    simp -implicitDefEqProofs only [D_321_98, k_321_98, v_iload, g_if_ge, g_iconst, g_icmp_eq, v_aload_n, v_iaload, inI_0, v_iload_n, v_callS2, aft_v, aft_n, v_callS3, g_if_eq, entL, getL, setL, kL_i, kL_r, isI_s, isR_s, isJ_s, gV_s, iV_i, cs0, cs1, cs2, cs3, cs4, dn_nil, kd_si, kd_sl, kd_sw, mr_si, mr_sl, mr_sw, ml_si, ml_sw, mi_sl, if_pos o2]
