-- ===== the model's tokens =====
def Mm.mt (h : Mm) (F : Nat → Int32) (w : Int64) : Mm := (h.sl 277 10 w).sw 277 F
theorem mt_k {h : Mm} {F : Nat → Int32} {w : Int64} : (h.mt F w).kd = h.kd := rfl
theorem mt_r {h : Mm} {F : Nat → Int32} {w : Int64} : (h.mt F w).mr = h.mr := rfl
theorem mt_f {h : Mm} {F : Nat → Int32} {w : Int64} : (h.mt F w).mi 277 = F := mi_sw
theorem mt_o {h : Mm} {F : Nat → Int32} {w : Int64} {a : Nat} (ha : a ≠ 277) : (h.mt F w).mi a = h.mi a := mi_swo ha
theorem mt_w {h : Mm} {F : Nat → Int32} {w : Int64} : (h.mt F w).ml 277 10 = w := z2_s (R := h.ml) (o := 277) (k := 10) (v := w)
theorem mt_si {h : Mm} {F : Nat → Int32} {w : Int64} {k : Nat} {v : Int32} : (h.mt F w).si 277 k v = h.mt (zu F k v) w := by
  rw [si_sw (a := 277)]
  have : (h.mt F w).mi 277 = F := mi_sw
  rw [this]
  exact sw_sw
theorem mt_sl {h : Mm} {F : Nat → Int32} {w v : Int64} : (h.mt F w).sl 277 10 v = h.mt F v := by
  show (h.1, h.2.1, zu h.mi 277 F, zu2 (zu2 h.ml 277 10 w) 277 10 v, h.mr) = (h.1, h.2.1, zu h.mi 277 F, zu2 h.ml 277 10 v, h.mr)
  have e : zu2 (zu2 h.ml 277 10 w) 277 10 v = zu2 h.ml 277 10 v := by
    funext i j
    unfold zu2 zu
    by_cases c : i = 277
    · rw [if_pos c, if_pos c, if_pos rfl]
      split <;> rfl
    · rw [if_neg c, if_neg c, if_neg c]
  rw [e]
theorem mt_id {h : Mm} : h.mt (h.mi 277) (h.ml 277 10) = h := by
  have e : h.sl 277 10 (h.ml 277 10) = h := by
    show (h.1, h.2.1, h.mi, zu2 h.ml 277 10 (h.ml 277 10), h.mr) = h
    have e : zu2 h.ml 277 10 (h.ml 277 10) = h.ml := by
      funext i j
      unfold zu2 zu
      by_cases c : i = 277
      · rw [if_pos c]
        split
        · rename_i q; rw [q, c]
        · rw [c]
      · rw [if_neg c]
    rw [e]; rfl
  unfold Mm.mt
  rw [e, sw_id]
theorem MO_mt {h : Mm} {F : Nat → Int32} {w : Int64} (H : MO h) : MO (h.mt F w) := H
def wdS (T : Nat → Nat) (s j w : Nat) : Nat := if j - s < 9 then 32 * w + (T j - 96) else w
def wdF (T : Nat → Nat) (t : Tok) : Nat := fl (wdS T t.1) (t.2.1 - t.1) t.1 0
def mkK (k : Nat) : Nat := if k = 0 then 1 else if k = 1 then 0 else k
/-- the model's token -/
def MT (F : Nat → Int32) (w : Int64) (n : Nat) (T : Nat → Nat) (t : Tok) : Prop := F 3 = Int32.ofNat n ∧ F 4 = Int32.ofNat t.2.1 ∧ F 7 = Int32.ofNat (mkK t.2.2.1) ∧ F 8 = Int32.ofNat t.1 ∧ (t.2.2.1 = 3 → F 9 = Int32.ofNat t.2.2.2) ∧ (t.2.2.1 = 2 → w = Int64.ofNat (wdF T t))
/-- the model's buffer holds the text -/
def MTO (h : Mm) (n : Nat) (T : Nat → Nat) : Prop := n ≤ 1500 ∧ ∀ j, j < n → T j < 256 ∧ h.mi 278 j = Int32.ofNat (T j)
theorem n278 : (278 : Nat) ≠ 277 := by decide
theorem i64_of {t : Nat} (ht : t < 2147483648) : (Int32.ofNat t).toInt64 = Int64.ofNat t := by
  apply Int64.toInt_inj.mp
  rw [Int32.toInt_toInt64, i32_toInt ht, Int64.toInt_ofNat_of_lt (by omega)]
theorem wd_i64 {w t : Nat} (ht : t < 256) (h96 : 96 ≤ t) : (32 : Int64) * Int64.ofNat w + (Int32.ofNat t).toInt64 - 96 = Int64.ofNat (32 * w + (t - 96)) := by
  rw [i64_of (by omega)]
  have e1 : (32 : Int64) * Int64.ofNat w = Int64.ofNat (32 * w) := (Int64.ofNat_mul 32 w).symm
  rw [e1, ← Int64.ofNat_add, show 32 * w + t = (32 * w + (t - 96)) + 96 by omega, Int64.ofNat_add]
  exact Int64.add_sub_cancel _ _
theorem R_330 : PG.2.1 330 = (some .int) := rfl
theorem m_330 {h : Mm} (H : MO h) {n p : Nat} {T : Nat → Nat} (B : MTO h n T) {F : Nat → Int32} {w : Int64} (f3 : F 3 = Int32.ofNat n) (hp : p ≤ n) : dM PG 330 [.ref 277, .int (Int32.ofNat p)] (h.mt F w) = some (.inl (some (.int (if p < n then Int32.ofNat (T p) else -1))), h.mt F w) := by
  rw [dM_of (Nat.le_of_ble_eq_true rfl)]
  have hn := B.1
  by_cases c : p < n
  · skip
    have e : ¬ Int32.ofNat (n) ≤ Int32.ofNat (p) := by rw [i32_le (by omega) (by omega)]; omega
    have b_1 : inb (Int32.ofNat (p)) 1500 = true := inb_nat (by omega) (by decide)
    have n_1 : (Int32.ofNat (p)).toNatClampNeg = p := i32_nat (by omega)
    have t2 := (B.2 p c).2
    rw [if_pos c]
    simp -implicitDefEqProofs only [D_330_0, k_330_0, D_330_17, k_330_17, D_330_18, k_330_18, R_330, v_iload_n, v_aload_n, g_getfield, sv_i, rf_s, g_getfieldS, g_icmp_ge, sv_a, v_iaload, inI_0, g_goto, g_iconst, g_ireturn, entL, getL, setL, kL_i, kL_r, isI_s, isR_s, isJ_s, gV_s, iV_i, cs0, cs1, cs2, cs3, cs4, dn_nil, kd_si, kd_sl, kd_sw, mr_si, mr_sl, mr_sw, ml_si, ml_sw, mi_sl, mk_277 H, mk_278 H, mk_279 H, mk_280 H, mk_281 H, mk_282 H, mk_283 H, mk_284 H, mk_285 H, mk_286 H, mk_287 H, mk_288 H, mk_289 H, mr_1 H, mr_11 H, mr_12 H, mr_13 H, mr_14 H, mr_15 H, mr_16 H, mr_17 H, mr_18 H, mr_19 H, mr_24 H, mr_25 H, mt_k, mt_r, mt_f, mt_o n278, f3, ↓if_neg e, if_neg e, b_1, n_1, t2, retX_int]
  · skip
    have e : Int32.ofNat (n) ≤ Int32.ofNat (p) := by rw [i32_le (by omega) (by omega)]; omega
    rw [if_neg c]
    simp -implicitDefEqProofs only [D_330_0, k_330_0, D_330_17, k_330_17, D_330_18, k_330_18, R_330, v_iload_n, v_aload_n, g_getfield, sv_i, rf_s, g_getfieldS, g_icmp_ge, sv_a, v_iaload, inI_0, g_goto, g_iconst, g_ireturn, entL, getL, setL, kL_i, kL_r, isI_s, isR_s, isJ_s, gV_s, iV_i, cs0, cs1, cs2, cs3, cs4, dn_nil, kd_si, kd_sl, kd_sw, mr_si, mr_sl, mr_sw, ml_si, ml_sw, mi_sl, mk_277 H, mk_278 H, mk_279 H, mk_280 H, mk_281 H, mk_282 H, mk_283 H, mk_284 H, mk_285 H, mk_286 H, mk_287 H, mk_288 H, mk_289 H, mr_1 H, mr_11 H, mr_12 H, mr_13 H, mr_14 H, mr_15 H, mr_16 H, mr_17 H, mr_18 H, mr_19 H, mr_24 H, mr_25 H, mt_k, mt_r, mt_f, f3, ↓if_pos e, if_pos e, retX_int]
theorem inF_T {t lo hi : Nat} (ht : t < 256) (hlo : lo < 256) (hhi : hi < 256) : inF (Int32.ofNat t) (Int32.ofNat lo) (Int32.ofNat hi) = if lo ≤ t ∧ t ≤ hi then 1 else 0 := by
  unfold inF
  by_cases c : t < lo
  · rw [if_pos (by rw [i32_lt (by omega) (by omega)]; exact c), if_neg (by omega)]
  · rw [if_neg (by rw [i32_lt (by omega) (by omega)]; exact c)]
    by_cases c2 : hi < t
    · rw [if_pos (by rw [i32_lt (by omega) (by omega)]; exact c2), if_neg (by omega)]
    · rw [if_neg (by rw [i32_lt (by omega) (by omega)]; exact c2), if_pos (by omega)]
theorem inF_m {lo hi : Nat} (hlo : lo < 256) : inF (-1) (Int32.ofNat lo) (Int32.ofNat hi) = 0 := by
  unfold inF
  rw [if_pos]
  rw [Int32.lt_iff_toInt_lt, i32_toInt (by omega), show (-1 : Int32).toInt = -1 from by decide]
  omega
theorem R_294 : PG.2.1 294 = none := rfl
section ST294
variable {h : Mm} {n : Nat} {T : Nat → Nat}
/-- a byte of the text, or -1 behind it -/
def bt (T : Nat → Nat) (n p : Nat) : Int32 := if p < n then Int32.ofNat (T p) else -1
theorem bt_L (hT : ∀ j, j < n → T j < 256) {p : Nat} : inF (bt T n p) 97 122 = if p < n ∧ isL T p = true then 1 else 0 := by
  unfold bt
  by_cases c : p < n
  · rw [if_pos c]
    have := inF_T (lo := 97) (hi := 122) (hT p c) (by decide) (by decide)
    have e : inF (Int32.ofNat (T p)) 97 122 = if 97 ≤ T p ∧ T p ≤ 122 then 1 else 0 := this
    rw [e]
    unfold isL
    by_cases c2 : 97 ≤ T p ∧ T p ≤ 122
    · rw [if_pos c2, if_pos ⟨c, decide_eq_true c2⟩]
    · rw [if_neg c2, if_neg (fun q => c2 (of_decide_eq_true q.2))]
  · rw [if_neg c, if_neg (fun q => c q.1)]
    exact inF_m (lo := 97) (hi := 122) (by decide)
theorem bt_D (hT : ∀ j, j < n → T j < 256) {p : Nat} : inF (bt T n p) 48 57 = if p < n ∧ isD T p = true then 1 else 0 := by
  unfold bt
  by_cases c : p < n
  · rw [if_pos c]
    have := inF_T (lo := 48) (hi := 57) (hT p c) (by decide) (by decide)
    have e : inF (Int32.ofNat (T p)) 48 57 = if 48 ≤ T p ∧ T p ≤ 57 then 1 else 0 := this
    rw [e]
    unfold isD
    by_cases c2 : 48 ≤ T p ∧ T p ≤ 57
    · rw [if_pos c2, if_pos ⟨c, decide_eq_true c2⟩]
    · rw [if_neg c2, if_neg (fun q => c2 (of_decide_eq_true q.2))]
  · rw [if_neg c, if_neg (fun q => c q.1)]
    exact inF_m (lo := 48) (hi := 57) (by decide)
theorem m_330b (H : MO h) {p : Nat} (B : MTO h n T) {F : Nat → Int32} {w : Int64} (f3 : F 3 = Int32.ofNat n) (hp : p ≤ n) : dM PG 330 [.ref 277, .int (Int32.ofNat p)] (h.mt F w) = some (.inl (some (.int (bt T n p))), h.mt F w) := m_330 H B f3 hp
theorem l_294a (H : MO h) (B : MTO h n T) {w : Int64} : ∀ (d p : Nat) (F : Nat → Int32), p + d = n → F 3 = Int32.ofNat n → F 4 = Int32.ofNat p → dB PG 294 8 [some (.ref 277)] [] (h.mt F w) = dB PG 294 34 [some (.ref 277)] [] (h.mt (zu F 4 (Int32.ofNat (rn (isB T) d p))) w) := by
  intro d
  have hn := B.1
  induction d with
  | zero =>
    intro p F hp f3 f4
    have g := m_330b H B (w := w) f3 (show p ≤ n by omega)
    have b0 : bt T n p = -1 := if_neg (by omega)
    rw [b0] at g
    have c : ¬ (-1 : Int32) = 32 := by decide
    have z : zu F 4 (Int32.ofNat (rn (isB T) 0 p)) = F := zu_id f4
    rw [z, D_294_8]
    simp -implicitDefEqProofs only [D_294_0, k_294_0, k_294_8, k_294_34, D_294_66, k_294_66, k_294_84, D_294_142, k_294_142, D_294_155, k_294_155, D_294_174, k_294_174, D_294_175, k_294_175, D_294_181, k_294_181, k_294_204, D_294_259, k_294_259, D_294_272, k_294_272, D_294_291, k_294_291, D_294_292, k_294_292, D_294_298, k_294_298, D_294_316, k_294_316, D_294_317, k_294_317, D_294_330, k_294_330, R_294, v_aload_n, g_getfield, sv_i, rf_s, g_getfieldS, g_if_le, g_return, v_callV2, aft_v, aft_n, g_bipush, g_icmp_ne, g_dup_i, g_dup_r, g_iconst, g_iadd, g_put_i, g_goto, g_lconst, g_put_l, v_callS3, g_if_eq, g_isub, g_icmp_ge, g_ldc2_w, sv_j, g_lmul, g_i2l, g_ladd, g_lsub, g_icmp_le, g_imul, entL, getL, setL, kL_i, kL_r, isI_s, isR_s, isJ_s, gV_s, iV_i, cs0, cs1, cs2, cs3, cs4, dn_nil, kd_si, kd_sl, kd_sw, mr_si, mr_sl, mr_sw, ml_si, ml_sw, mi_sl, mk_277 H, mk_278 H, mk_279 H, mk_280 H, mk_281 H, mk_282 H, mk_283 H, mk_284 H, mk_285 H, mk_286 H, mk_287 H, mk_288 H, mk_289 H, mr_1 H, mr_11 H, mr_12 H, mr_13 H, mr_14 H, mr_15 H, mr_16 H, mr_17 H, mr_18 H, mr_19 H, mr_24 H, mr_25 H, mt_k, mt_f, f4, g, ↓if_neg c, if_neg c]
  | succ d ih =>
    intro p F hp f3 f4
    have g := m_330b H B (w := w) f3 (show p ≤ n by omega)
    have b0 : bt T n p = Int32.ofNat (T p) := if_pos (by omega)
    rw [b0] at g
    have t1 := (B.2 p (by omega)).1
    have s1 : Int32.ofNat (p) + 1 = Int32.ofNat (p + 1) := i32_add (b := 1)
    by_cases c : T p = 32
    · have c2 : Int32.ofNat (T p) = 32 := by rw [c]; rfl
      have z : rn (isB T) (d + 1) p = rn (isB T) d (p + 1) := if_pos (decide_eq_true c)
      have r := ih (p + 1) (zu F 4 (Int32.ofNat (p + 1))) (by omega) (by rw [zu_o (by decide), f3]) zu_same
      rw [zu_zu] at r
      rw [z, ← r, D_294_8]
      simp -implicitDefEqProofs only [D_294_0, k_294_0, k_294_8, k_294_34, D_294_66, k_294_66, k_294_84, D_294_142, k_294_142, D_294_155, k_294_155, D_294_174, k_294_174, D_294_175, k_294_175, D_294_181, k_294_181, k_294_204, D_294_259, k_294_259, D_294_272, k_294_272, D_294_291, k_294_291, D_294_292, k_294_292, D_294_298, k_294_298, D_294_316, k_294_316, D_294_317, k_294_317, D_294_330, k_294_330, R_294, v_aload_n, g_getfield, sv_i, rf_s, g_getfieldS, g_if_le, g_return, v_callV2, aft_v, aft_n, g_bipush, g_icmp_ne, g_dup_i, g_dup_r, g_iconst, g_iadd, g_put_i, g_goto, g_lconst, g_put_l, v_callS3, g_if_eq, g_isub, g_icmp_ge, g_ldc2_w, sv_j, g_lmul, g_i2l, g_ladd, g_lsub, g_icmp_le, g_imul, entL, getL, setL, kL_i, kL_r, isI_s, isR_s, isJ_s, gV_s, iV_i, cs0, cs1, cs2, cs3, cs4, dn_nil, kd_si, kd_sl, kd_sw, mr_si, mr_sl, mr_sw, ml_si, ml_sw, mi_sl, mk_277 H, mk_278 H, mk_279 H, mk_280 H, mk_281 H, mk_282 H, mk_283 H, mk_284 H, mk_285 H, mk_286 H, mk_287 H, mk_288 H, mk_289 H, mr_1 H, mr_11 H, mr_12 H, mr_13 H, mr_14 H, mr_15 H, mr_16 H, mr_17 H, mr_18 H, mr_19 H, mr_24 H, mr_25 H, mt_k, mt_f, mt_si, f4, g, ↓if_pos c2, if_pos c2, s1]
    · have c2 : ¬ Int32.ofNat (T p) = 32 := by
        show ¬ Int32.ofNat (T p) = Int32.ofNat 32
        exact i32_ne (by omega) (by omega) c
      have z : rn (isB T) (d + 1) p = p := if_neg (by unfold isB; rw [decide_eq_false c]; decide)
      rw [z, zu_id f4, D_294_8]
      simp -implicitDefEqProofs only [D_294_0, k_294_0, k_294_8, k_294_34, D_294_66, k_294_66, k_294_84, D_294_142, k_294_142, D_294_155, k_294_155, D_294_174, k_294_174, D_294_175, k_294_175, D_294_181, k_294_181, k_294_204, D_294_259, k_294_259, D_294_272, k_294_272, D_294_291, k_294_291, D_294_292, k_294_292, D_294_298, k_294_298, D_294_316, k_294_316, D_294_317, k_294_317, D_294_330, k_294_330, R_294, v_aload_n, g_getfield, sv_i, rf_s, g_getfieldS, g_if_le, g_return, v_callV2, aft_v, aft_n, g_bipush, g_icmp_ne, g_dup_i, g_dup_r, g_iconst, g_iadd, g_put_i, g_goto, g_lconst, g_put_l, v_callS3, g_if_eq, g_isub, g_icmp_ge, g_ldc2_w, sv_j, g_lmul, g_i2l, g_ladd, g_lsub, g_icmp_le, g_imul, entL, getL, setL, kL_i, kL_r, isI_s, isR_s, isJ_s, gV_s, iV_i, cs0, cs1, cs2, cs3, cs4, dn_nil, kd_si, kd_sl, kd_sw, mr_si, mr_sl, mr_sw, ml_si, ml_sw, mi_sl, mk_277 H, mk_278 H, mk_279 H, mk_280 H, mk_281 H, mk_282 H, mk_283 H, mk_284 H, mk_285 H, mk_286 H, mk_287 H, mk_288 H, mk_289 H, mr_1 H, mr_11 H, mr_12 H, mr_13 H, mr_14 H, mr_15 H, mr_16 H, mr_17 H, mr_18 H, mr_19 H, mr_24 H, mr_25 H, mt_k, mt_f, f4, g, ↓if_neg c2, if_neg c2]
theorem l_294b (H : MO h) (B : MTO h n T) {s : Nat} (hs : s ≤ n) : ∀ (d p v : Nat) (F : Nat → Int32), p + d = n → s ≤ p → F 3 = Int32.ofNat n → F 8 = Int32.ofNat s → F 4 = Int32.ofNat p → dB PG 294 84 [some (.ref 277)] [] (h.mt F (Int64.ofNat v)) = dB PG 294 155 [some (.ref 277)] [] (h.mt (zu F 4 (Int32.ofNat (rn (isL T) d p))) (Int64.ofNat (fl (wdS T s) (rn (isL T) d p - p) p v))) := by
  intro d
  have hn := B.1
  have hT : ∀ j, j < n → T j < 256 := fun j hj => (B.2 j hj).1
  induction d with
  | zero =>
    intro p v F hp hsp f3 f8 f4
    have g := m_330b H B (w := Int64.ofNat v) f3 (show p ≤ n by omega)
    have b0 : inF (bt T n p) 97 122 = 0 := (bt_L hT).trans (if_neg (fun q => by omega))
    have z : zu F 4 (Int32.ofNat (rn (isL T) 0 p)) = F := zu_id f4
    have z2 : fl (wdS T s) (rn (isL T) 0 p - p) p v = v := by
      have : rn (isL T) 0 p = p := rfl
      rw [this, Nat.sub_self]; rfl
    rw [z, z2, D_294_84]
    simp -implicitDefEqProofs only [D_294_0, k_294_0, k_294_8, k_294_34, D_294_66, k_294_66, k_294_84, D_294_142, k_294_142, k_294_155, D_294_174, k_294_174, D_294_175, k_294_175, D_294_181, k_294_181, k_294_204, D_294_259, k_294_259, D_294_272, k_294_272, D_294_291, k_294_291, D_294_292, k_294_292, D_294_298, k_294_298, D_294_316, k_294_316, D_294_317, k_294_317, D_294_330, k_294_330, R_294, v_aload_n, g_getfield, sv_i, rf_s, g_getfieldS, g_if_le, g_return, v_callV2, aft_v, aft_n, g_bipush, g_icmp_ne, g_dup_i, g_dup_r, g_iconst, g_iadd, g_put_i, g_goto, g_lconst, g_put_l, v_callS3, g_if_eq, g_isub, g_icmp_ge, g_ldc2_w, sv_j, g_lmul, g_i2l, g_ladd, g_lsub, g_icmp_le, g_imul, entL, getL, setL, kL_i, kL_r, isI_s, isR_s, isJ_s, gV_s, iV_i, cs0, cs1, cs2, cs3, cs4, dn_nil, kd_si, kd_sl, kd_sw, mr_si, mr_sl, mr_sw, ml_si, ml_sw, mi_sl, mk_277 H, mk_278 H, mk_279 H, mk_280 H, mk_281 H, mk_282 H, mk_283 H, mk_284 H, mk_285 H, mk_286 H, mk_287 H, mk_288 H, mk_289 H, mr_1 H, mr_11 H, mr_12 H, mr_13 H, mr_14 H, mr_15 H, mr_16 H, mr_17 H, mr_18 H, mr_19 H, mr_24 H, mr_25 H, mt_k, mt_f, f4, g, m_136, b0, ↓if_true, if_true]
  | succ d ih =>
    intro p v F hp hsp f3 f8 f4
    have g := fun v => m_330b H B (w := Int64.ofNat v) f3 (show p ≤ n by omega)
    have t1 := hT p (by omega)
    have s1 : Int32.ofNat (p) + 1 = Int32.ofNat (p + 1) := i32_add (b := 1)
    cases c : isL T p with
    | true =>
      have b0 : inF (bt T n p) 97 122 = 1 := (bt_L hT).trans (if_pos ⟨by omega, c⟩)
      have c96 : 97 ≤ T p ∧ T p ≤ 122 := of_decide_eq_true c
      have bv : bt T n p = Int32.ofNat (T p) := if_pos (by omega)
      have z : rn (isL T) (d + 1) p = rn (isL T) d (p + 1) := if_pos c
      have hle := (rn_le (q := isL T) d (p + 1)).1
      have zf : fl (wdS T s) (rn (isL T) d (p + 1) - p) p v = fl (wdS T s) (rn (isL T) d (p + 1) - (p + 1)) (p + 1) (wdS T s p v) := by
        rw [show rn (isL T) d (p + 1) - p = (rn (isL T) d (p + 1) - (p + 1)) + 1 by omega]; rfl
      have r := ih (p + 1) (wdS T s p v) (zu F 4 (Int32.ofNat (p + 1))) (by omega) (by omega) (by rw [zu_o (by decide), f3]) (by rw [zu_o (by decide), f8]) zu_same
      rw [zu_zu] at r
      have sub1 : Int32.ofNat p - Int32.ofNat s = Int32.ofNat (p - s) := i32_sub hsp
      rw [z, zf, ← r, D_294_84]
      unfold wdS
      by_cases c9 : p - s < 9
      · have l9 : ¬ (9 : Int32) ≤ Int32.ofNat (p - s) := by
          show ¬ Int32.ofNat 9 ≤ Int32.ofNat (p - s)
          rw [i32_le (by omega) (by omega)]; omega
        have wd := wd_i64 (w := v) t1 (by omega)
        have b0' := b0
        rw [bv] at b0'
        rw [if_pos c9]
        simp -implicitDefEqProofs only [D_294_0, k_294_0, k_294_8, k_294_34, D_294_66, k_294_66, k_294_84, D_294_142, k_294_142, k_294_155, D_294_174, k_294_174, D_294_175, k_294_175, D_294_181, k_294_181, k_294_204, D_294_259, k_294_259, D_294_272, k_294_272, D_294_291, k_294_291, D_294_292, k_294_292, D_294_298, k_294_298, D_294_316, k_294_316, D_294_317, k_294_317, D_294_330, k_294_330, R_294, v_aload_n, g_getfield, sv_i, rf_s, g_getfieldS, g_if_le, g_return, v_callV2, aft_v, aft_n, g_bipush, g_icmp_ne, g_dup_i, g_dup_r, g_iconst, g_iadd, g_put_i, g_goto, g_lconst, g_put_l, v_callS3, g_if_eq, g_isub, g_icmp_ge, g_ldc2_w, sv_j, g_lmul, g_i2l, g_ladd, g_lsub, g_icmp_le, g_imul, entL, getL, setL, kL_i, kL_r, isI_s, isR_s, isJ_s, gV_s, iV_i, cs0, cs1, cs2, cs3, cs4, dn_nil, kd_si, kd_sl, kd_sw, mr_si, mr_sl, mr_sw, ml_si, ml_sw, mi_sl, mk_277 H, mk_278 H, mk_279 H, mk_280 H, mk_281 H, mk_282 H, mk_283 H, mk_284 H, mk_285 H, mk_286 H, mk_287 H, mk_288 H, mk_289 H, mr_1 H, mr_11 H, mr_12 H, mr_13 H, mr_14 H, mr_15 H, mr_16 H, mr_17 H, mr_18 H, mr_19 H, mr_24 H, mr_25 H, mt_k, mt_f, mt_w, mt_sl, mt_si, f4, f8, g, m_136, b0', ↓if_neg z_1, if_neg z_1, sub1, ↓if_neg l9, if_neg l9, bv, wd, s1]
      · have l9 : (9 : Int32) ≤ Int32.ofNat (p - s) := by
          show Int32.ofNat 9 ≤ Int32.ofNat (p - s)
          rw [i32_le (by omega) (by omega)]; omega
        rw [if_neg c9]
        simp -implicitDefEqProofs only [D_294_0, k_294_0, k_294_8, k_294_34, D_294_66, k_294_66, k_294_84, D_294_142, k_294_142, k_294_155, D_294_174, k_294_174, D_294_175, k_294_175, D_294_181, k_294_181, k_294_204, D_294_259, k_294_259, D_294_272, k_294_272, D_294_291, k_294_291, D_294_292, k_294_292, D_294_298, k_294_298, D_294_316, k_294_316, D_294_317, k_294_317, D_294_330, k_294_330, R_294, v_aload_n, g_getfield, sv_i, rf_s, g_getfieldS, g_if_le, g_return, v_callV2, aft_v, aft_n, g_bipush, g_icmp_ne, g_dup_i, g_dup_r, g_iconst, g_iadd, g_put_i, g_goto, g_lconst, g_put_l, v_callS3, g_if_eq, g_isub, g_icmp_ge, g_ldc2_w, sv_j, g_lmul, g_i2l, g_ladd, g_lsub, g_icmp_le, g_imul, entL, getL, setL, kL_i, kL_r, isI_s, isR_s, isJ_s, gV_s, iV_i, cs0, cs1, cs2, cs3, cs4, dn_nil, kd_si, kd_sl, kd_sw, mr_si, mr_sl, mr_sw, ml_si, ml_sw, mi_sl, mk_277 H, mk_278 H, mk_279 H, mk_280 H, mk_281 H, mk_282 H, mk_283 H, mk_284 H, mk_285 H, mk_286 H, mk_287 H, mk_288 H, mk_289 H, mr_1 H, mr_11 H, mr_12 H, mr_13 H, mr_14 H, mr_15 H, mr_16 H, mr_17 H, mr_18 H, mr_19 H, mr_24 H, mr_25 H, mt_k, mt_f, mt_w, mt_sl, mt_si, f4, f8, g, m_136, b0, ↓if_neg z_1, if_neg z_1, sub1, ↓if_pos l9, if_pos l9, s1]
    | false =>
      have b0 : inF (bt T n p) 97 122 = 0 := (bt_L hT).trans (if_neg (fun q => by rw [c] at q; exact Bool.false_ne_true q.2))
      have z : rn (isL T) (d + 1) p = p := if_neg (by rw [c]; exact Bool.false_ne_true)
      rw [z, zu_id f4, Nat.sub_self, D_294_84]
      simp -implicitDefEqProofs only [D_294_0, k_294_0, k_294_8, k_294_34, D_294_66, k_294_66, k_294_84, D_294_142, k_294_142, k_294_155, D_294_174, k_294_174, D_294_175, k_294_175, D_294_181, k_294_181, k_294_204, D_294_259, k_294_259, D_294_272, k_294_272, D_294_291, k_294_291, D_294_292, k_294_292, D_294_298, k_294_298, D_294_316, k_294_316, D_294_317, k_294_317, D_294_330, k_294_330, R_294, v_aload_n, g_getfield, sv_i, rf_s, g_getfieldS, g_if_le, g_return, v_callV2, aft_v, aft_n, g_bipush, g_icmp_ne, g_dup_i, g_dup_r, g_iconst, g_iadd, g_put_i, g_goto, g_lconst, g_put_l, v_callS3, g_if_eq, g_isub, g_icmp_ge, g_ldc2_w, sv_j, g_lmul, g_i2l, g_ladd, g_lsub, g_icmp_le, g_imul, entL, getL, setL, kL_i, kL_r, isI_s, isR_s, isJ_s, gV_s, iV_i, cs0, cs1, cs2, cs3, cs4, dn_nil, kd_si, kd_sl, kd_sw, mr_si, mr_sl, mr_sw, ml_si, ml_sw, mi_sl, mk_277 H, mk_278 H, mk_279 H, mk_280 H, mk_281 H, mk_282 H, mk_283 H, mk_284 H, mk_285 H, mk_286 H, mk_287 H, mk_288 H, mk_289 H, mr_1 H, mr_11 H, mr_12 H, mr_13 H, mr_14 H, mr_15 H, mr_16 H, mr_17 H, mr_18 H, mr_19 H, mr_24 H, mr_25 H, mt_k, mt_f, f4, g, m_136, b0, ↓if_true, if_true]
      rfl
theorem l_294c (H : MO h) (B : MTO h n T) {s : Nat} (hs : s ≤ n) {w : Int64} : ∀ (d p v : Nat) (F : Nat → Int32), p + d = n → s ≤ p → F 3 = Int32.ofNat n → F 8 = Int32.ofNat s → F 4 = Int32.ofNat p → F 9 = Int32.ofNat v → dB PG 294 204 [some (.ref 277)] [] (h.mt F w) = dB PG 294 272 [some (.ref 277)] [] (h.mt (zu (zu F 9 (Int32.ofNat (fl (vlS T s) (rn (isD T) d p - p) p v))) 4 (Int32.ofNat (rn (isD T) d p))) w) := by
  intro d
  have hn := B.1
  have hT : ∀ j, j < n → T j < 256 := fun j hj => (B.2 j hj).1
  induction d with
  | zero =>
    intro p v F hp hsp f3 f8 f4 f9
    have g := m_330b H B (w := w) f3 (show p ≤ n by omega)
    have b0 : inF (bt T n p) 48 57 = 0 := (bt_D hT).trans (if_neg (fun q => by omega))
    have z : zu (zu F 9 (Int32.ofNat (fl (vlS T s) (rn (isD T) 0 p - p) p v))) 4 (Int32.ofNat (rn (isD T) 0 p)) = F := by
      have e0 : rn (isD T) 0 p = p := rfl
      rw [e0, Nat.sub_self]
      show zu (zu F 9 (Int32.ofNat v)) 4 (Int32.ofNat p) = F
      rw [zu_id f9, zu_id f4]
    rw [z, D_294_204]
    simp -implicitDefEqProofs only [D_294_0, k_294_0, k_294_8, k_294_34, D_294_66, k_294_66, k_294_84, D_294_142, k_294_142, k_294_155, D_294_174, k_294_174, D_294_175, k_294_175, D_294_181, k_294_181, k_294_204, D_294_259, k_294_259, k_294_272, D_294_291, k_294_291, D_294_292, k_294_292, D_294_298, k_294_298, D_294_316, k_294_316, D_294_317, k_294_317, D_294_330, k_294_330, R_294, v_aload_n, g_getfield, sv_i, rf_s, g_getfieldS, g_if_le, g_return, v_callV2, aft_v, aft_n, g_bipush, g_icmp_ne, g_dup_i, g_dup_r, g_iconst, g_iadd, g_put_i, g_goto, g_lconst, g_put_l, v_callS3, g_if_eq, g_isub, g_icmp_ge, g_ldc2_w, sv_j, g_lmul, g_i2l, g_ladd, g_lsub, g_icmp_le, g_imul, entL, getL, setL, kL_i, kL_r, isI_s, isR_s, isJ_s, gV_s, iV_i, cs0, cs1, cs2, cs3, cs4, dn_nil, kd_si, kd_sl, kd_sw, mr_si, mr_sl, mr_sw, ml_si, ml_sw, mi_sl, mk_277 H, mk_278 H, mk_279 H, mk_280 H, mk_281 H, mk_282 H, mk_283 H, mk_284 H, mk_285 H, mk_286 H, mk_287 H, mk_288 H, mk_289 H, mr_1 H, mr_11 H, mr_12 H, mr_13 H, mr_14 H, mr_15 H, mr_16 H, mr_17 H, mr_18 H, mr_19 H, mr_24 H, mr_25 H, mt_k, mt_f, f4, g, m_136, b0, ↓if_true, if_true]
  | succ d ih =>
    intro p v F hp hsp f3 f8 f4 f9
    have g := m_330b H B (w := w) f3 (show p ≤ n by omega)
    have t1 := hT p (by omega)
    have s1 : Int32.ofNat (p) + 1 = Int32.ofNat (p + 1) := i32_add (b := 1)
    cases c : isD T p with
    | true =>
      have b0 : inF (bt T n p) 48 57 = 1 := (bt_D hT).trans (if_pos ⟨by omega, c⟩)
      have c48 : 48 ≤ T p ∧ T p ≤ 57 := of_decide_eq_true c
      have bv : bt T n p = Int32.ofNat (T p) := if_pos (by omega)
      rw [bv] at b0 g
      have z : rn (isD T) (d + 1) p = rn (isD T) d (p + 1) := if_pos c
      have hle := (rn_le (q := isD T) d (p + 1)).1
      have zf : fl (vlS T s) (rn (isD T) d (p + 1) - p) p v = fl (vlS T s) (rn (isD T) d (p + 1) - (p + 1)) (p + 1) (vlS T s p v) := by
        rw [show rn (isD T) d (p + 1) - p = (rn (isD T) d (p + 1) - (p + 1)) + 1 by omega]; rfl
      have r := ih (p + 1) (vlS T s p v) (zu (zu F 9 (Int32.ofNat (vlS T s p v))) 4 (Int32.ofNat (p + 1))) (by omega) (by omega) (by rw [zu_o (by decide), zu_o (by decide), f3]) (by rw [zu_o (by decide), zu_o (by decide), f8]) zu_same (by rw [zu_o (by decide), zu_same])
      have zc : ∀ a b c d' : Int32, zu (zu (zu (zu F 9 a) 4 b) 9 c) 4 d' = zu (zu F 9 c) 4 d' := fun a b c d' => by
        funext j
        unfold zu
        split
        · rfl
        · split <;> rfl
      rw [zc] at r
      have sub1 : Int32.ofNat p - Int32.ofNat s = Int32.ofNat (p - s) := i32_sub hsp
      rw [z, zf, ← r, D_294_204]
      unfold vlS
      by_cases c6 : p - s < 6
      · have l6 : ¬ (6 : Int32) ≤ Int32.ofNat (p - s) := by
          show ¬ Int32.ofNat 6 ≤ Int32.ofNat (p - s)
          rw [i32_le (by omega) (by omega)]; omega
        have vv : (10 : Int32) * Int32.ofNat v + Int32.ofNat (T p) - 48 = Int32.ofNat (v * 10 + (T p - 48)) := by
          have e1 : (10 : Int32) * Int32.ofNat v = Int32.ofNat (10 * v) := i32_mul (a := 10)
          rw [e1, i32_add]
          have e2 : Int32.ofNat (10 * v + T p) - 48 = Int32.ofNat (10 * v + T p - 48) := i32_sub (b := 48) (by omega)
          rw [e2]
          congr 1; omega
        rw [if_pos c6]
        simp -implicitDefEqProofs only [D_294_0, k_294_0, k_294_8, k_294_34, D_294_66, k_294_66, k_294_84, D_294_142, k_294_142, k_294_155, D_294_174, k_294_174, D_294_175, k_294_175, D_294_181, k_294_181, k_294_204, D_294_259, k_294_259, k_294_272, D_294_291, k_294_291, D_294_292, k_294_292, D_294_298, k_294_298, D_294_316, k_294_316, D_294_317, k_294_317, D_294_330, k_294_330, R_294, v_aload_n, g_getfield, sv_i, rf_s, g_getfieldS, g_if_le, g_return, v_callV2, aft_v, aft_n, g_bipush, g_icmp_ne, g_dup_i, g_dup_r, g_iconst, g_iadd, g_put_i, g_goto, g_lconst, g_put_l, v_callS3, g_if_eq, g_isub, g_icmp_ge, g_ldc2_w, sv_j, g_lmul, g_i2l, g_ladd, g_lsub, g_icmp_le, g_imul, entL, getL, setL, kL_i, kL_r, isI_s, isR_s, isJ_s, gV_s, iV_i, cs0, cs1, cs2, cs3, cs4, dn_nil, kd_si, kd_sl, kd_sw, mr_si, mr_sl, mr_sw, ml_si, ml_sw, mi_sl, mk_277 H, mk_278 H, mk_279 H, mk_280 H, mk_281 H, mk_282 H, mk_283 H, mk_284 H, mk_285 H, mk_286 H, mk_287 H, mk_288 H, mk_289 H, mr_1 H, mr_11 H, mr_12 H, mr_13 H, mr_14 H, mr_15 H, mr_16 H, mr_17 H, mr_18 H, mr_19 H, mr_24 H, mr_25 H, mt_k, mt_f, mt_si, f4, f8, f9, g, m_136, b0, ↓if_neg z_1, if_neg z_1, sub1, ↓if_neg l6, if_neg l6, vv, zu_o (show (4 : Nat) ≠ 9 by decide), s1]
      · have l6 : (6 : Int32) ≤ Int32.ofNat (p - s) := by
          show Int32.ofNat 6 ≤ Int32.ofNat (p - s)
          rw [i32_le (by omega) (by omega)]; omega
        rw [if_neg c6, zu_id f9]
        simp -implicitDefEqProofs only [D_294_0, k_294_0, k_294_8, k_294_34, D_294_66, k_294_66, k_294_84, D_294_142, k_294_142, k_294_155, D_294_174, k_294_174, D_294_175, k_294_175, D_294_181, k_294_181, k_294_204, D_294_259, k_294_259, k_294_272, D_294_291, k_294_291, D_294_292, k_294_292, D_294_298, k_294_298, D_294_316, k_294_316, D_294_317, k_294_317, D_294_330, k_294_330, R_294, v_aload_n, g_getfield, sv_i, rf_s, g_getfieldS, g_if_le, g_return, v_callV2, aft_v, aft_n, g_bipush, g_icmp_ne, g_dup_i, g_dup_r, g_iconst, g_iadd, g_put_i, g_goto, g_lconst, g_put_l, v_callS3, g_if_eq, g_isub, g_icmp_ge, g_ldc2_w, sv_j, g_lmul, g_i2l, g_ladd, g_lsub, g_icmp_le, g_imul, entL, getL, setL, kL_i, kL_r, isI_s, isR_s, isJ_s, gV_s, iV_i, cs0, cs1, cs2, cs3, cs4, dn_nil, kd_si, kd_sl, kd_sw, mr_si, mr_sl, mr_sw, ml_si, ml_sw, mi_sl, mk_277 H, mk_278 H, mk_279 H, mk_280 H, mk_281 H, mk_282 H, mk_283 H, mk_284 H, mk_285 H, mk_286 H, mk_287 H, mk_288 H, mk_289 H, mr_1 H, mr_11 H, mr_12 H, mr_13 H, mr_14 H, mr_15 H, mr_16 H, mr_17 H, mr_18 H, mr_19 H, mr_24 H, mr_25 H, mt_k, mt_f, mt_si, f4, f8, f9, g, m_136, b0, ↓if_neg z_1, if_neg z_1, sub1, ↓if_pos l6, if_pos l6, s1]
    | false =>
      have b0 : inF (bt T n p) 48 57 = 0 := (bt_D hT).trans (if_neg (fun q => by rw [c] at q; exact Bool.false_ne_true q.2))
      have z : rn (isD T) (d + 1) p = p := if_neg (by rw [c]; exact Bool.false_ne_true)
      have z2 : zu (zu F 9 (Int32.ofNat (fl (vlS T s) (p - p) p v))) 4 (Int32.ofNat p) = F := by
        rw [Nat.sub_self]
        show zu (zu F 9 (Int32.ofNat v)) 4 (Int32.ofNat p) = F
        rw [zu_id f9, zu_id f4]
      rw [z, z2, D_294_204]
      simp -implicitDefEqProofs only [D_294_0, k_294_0, k_294_8, k_294_34, D_294_66, k_294_66, k_294_84, D_294_142, k_294_142, k_294_155, D_294_174, k_294_174, D_294_175, k_294_175, D_294_181, k_294_181, k_294_204, D_294_259, k_294_259, k_294_272, D_294_291, k_294_291, D_294_292, k_294_292, D_294_298, k_294_298, D_294_316, k_294_316, D_294_317, k_294_317, D_294_330, k_294_330, R_294, v_aload_n, g_getfield, sv_i, rf_s, g_getfieldS, g_if_le, g_return, v_callV2, aft_v, aft_n, g_bipush, g_icmp_ne, g_dup_i, g_dup_r, g_iconst, g_iadd, g_put_i, g_goto, g_lconst, g_put_l, v_callS3, g_if_eq, g_isub, g_icmp_ge, g_ldc2_w, sv_j, g_lmul, g_i2l, g_ladd, g_lsub, g_icmp_le, g_imul, entL, getL, setL, kL_i, kL_r, isI_s, isR_s, isJ_s, gV_s, iV_i, cs0, cs1, cs2, cs3, cs4, dn_nil, kd_si, kd_sl, kd_sw, mr_si, mr_sl, mr_sw, ml_si, ml_sw, mi_sl, mk_277 H, mk_278 H, mk_279 H, mk_280 H, mk_281 H, mk_282 H, mk_283 H, mk_284 H, mk_285 H, mk_286 H, mk_287 H, mk_288 H, mk_289 H, mr_1 H, mr_11 H, mr_12 H, mr_13 H, mr_14 H, mr_15 H, mr_16 H, mr_17 H, mr_18 H, mr_19 H, mr_24 H, mr_25 H, mt_k, mt_f, f4, g, m_136, b0, ↓if_true, if_true]
/-- what a step of the tokens leaves alone -/
def keepM (F F' : Nat → Int32) : Prop := ∀ j, j ≠ 4 → j ≠ 7 → j ≠ 8 → j ≠ 9 → F' j = F j
theorem m_294e (H : MO h) {F : Nat → Int32} {w : Int64} (f5 : ¬ F 5 ≤ 0) : dM PG 294 [.ref 277] (h.mt F w) = some (.inl none, h.mt F w) := by
  rw [dM_of (Nat.le_of_ble_eq_true rfl)]
  simp -implicitDefEqProofs only [D_294_0, k_294_0, R_294, v_aload_n, g_getfield, sv_i, rf_s, g_getfieldS, g_if_le, g_return, entL, getL, setL, kL_i, kL_r, isI_s, isR_s, isJ_s, gV_s, iV_i, cs0, cs1, cs2, cs3, cs4, dn_nil, kd_si, kd_sl, kd_sw, mr_si, mr_sl, mr_sw, ml_si, ml_sw, mi_sl, mk_277 H, mk_278 H, mk_279 H, mk_280 H, mk_281 H, mk_282 H, mk_283 H, mk_284 H, mk_285 H, mk_286 H, mk_287 H, mk_288 H, mk_289 H, mr_1 H, mr_11 H, mr_12 H, mr_13 H, mr_14 H, mr_15 H, mr_16 H, mr_17 H, mr_18 H, mr_19 H, mr_24 H, mr_25 H, mt_k, mt_f, ↓if_neg f5, if_neg f5]
theorem m_294 (H : MO h) (B : MTO h n T) {p : Nat} (hp : p ≤ n) {F : Nat → Int32} {w : Int64} (f3 : F 3 = Int32.ofNat n) (f4 : F 4 = Int32.ofNat p) (f5 : F 5 = 0) : ∃ F' w', dM PG 294 [.ref 277] (h.mt F w) = some (.inl none, h.mt F' w') ∧ MT F' w' n T (tok T n p) ∧ keepM F F' := by
  have hn := B.1
  have hT : ∀ j, j < n → T j < 256 := fun j hj => (B.2 j hj).1
  have ea := l_294a H B (w := w) (n - p) p F (by omega) f3 f4
  have hs := rn_le (q := isB T) (n - p) p
  unfold tok
  generalize rn (isB T) (n - p) p = s at ea hs
  have hsn : s ≤ n := by omega
  have c5 : (0 : Int32) ≤ 0 := by decide
  have pre : dM PG 294 [.ref 277] (h.mt F w) = dB PG 294 34 [some (.ref 277)] [] (h.mt (zu F 4 (Int32.ofNat s)) w) := by
    rw [← ea]
    rw [dM_of (Nat.le_of_ble_eq_true rfl)]
    simp -implicitDefEqProofs only [D_294_0, k_294_0, R_294, v_aload_n, g_getfield, sv_i, rf_s, g_getfieldS, g_if_le, g_return, entL, getL, setL, kL_i, kL_r, isI_s, isR_s, isJ_s, gV_s, iV_i, cs0, cs1, cs2, cs3, cs4, dn_nil, kd_si, kd_sl, kd_sw, mr_si, mr_sl, mr_sw, ml_si, ml_sw, mi_sl, mk_277 H, mk_278 H, mk_279 H, mk_280 H, mk_281 H, mk_282 H, mk_283 H, mk_284 H, mk_285 H, mk_286 H, mk_287 H, mk_288 H, mk_289 H, mr_1 H, mr_11 H, mr_12 H, mr_13 H, mr_14 H, mr_15 H, mr_16 H, mr_17 H, mr_18 H, mr_19 H, mr_24 H, mr_25 H, mt_k, mt_f, f5, ↓if_pos c5, if_pos c5]
  rw [pre]
  clear pre ea
  obtain ⟨G, hG⟩ : ∃ G, G = zu (zu F 4 (Int32.ofNat s)) 8 (Int32.ofNat s) := ⟨_, rfl⟩
  have g3 : G 3 = Int32.ofNat n := by rw [hG, zu_o (by decide), zu_o (by decide), f3]
  have g4 : G 4 = Int32.ofNat s := by rw [hG, zu_o (by decide), zu_same]
  have g8 : G 8 = Int32.ofNat s := by rw [hG, zu_same]
  have gk : keepM F G := fun j h4 h7 h8 h9 => by rw [hG, zu_o h8, zu_o h4]
  have z4 : zu F 4 (Int32.ofNat s) 4 = Int32.ofNat s := zu_same
  unfold tokS
  have hl := rn_le (q := isL T) (n - s) s
  have hd := rn_le (q := isD T) (n - s) s
  have gb := fun w => m_330b H B (w := w) g3 hsn
  by_cases c0 : n ≤ s
  · obtain rfl : s = n := by omega
    rw [if_pos c0]
    refine ⟨zu G 7 1, 0, ?_, ⟨?_, ?_, ?_, ?_, (fun q => by cases q), (fun q => by cases q)⟩, fun j h4 h7 h8 h9 => by rw [zu_o h7]; exact gk j h4 h7 h8 h9⟩
    · rw [D_294_34]
      simp -implicitDefEqProofs only [D_294_0, k_294_0, k_294_8, k_294_34, D_294_66, k_294_66, k_294_84, D_294_142, k_294_142, k_294_155, D_294_174, k_294_174, D_294_175, k_294_175, D_294_181, k_294_181, k_294_204, D_294_259, k_294_259, k_294_272, D_294_291, k_294_291, D_294_292, k_294_292, D_294_298, k_294_298, D_294_316, k_294_316, D_294_317, k_294_317, D_294_330, k_294_330, R_294, v_aload_n, g_getfield, sv_i, rf_s, g_getfieldS, g_if_le, g_return, v_callV2, aft_v, aft_n, g_bipush, g_icmp_ne, g_dup_i, g_dup_r, g_iconst, g_iadd, g_put_i, g_goto, g_lconst, g_put_l, v_callS3, g_if_eq, g_isub, g_icmp_ge, g_ldc2_w, sv_j, g_lmul, g_i2l, g_ladd, g_lsub, g_icmp_le, g_imul, entL, getL, setL, kL_i, kL_r, isI_s, isR_s, isJ_s, gV_s, iV_i, cs0, cs1, cs2, cs3, cs4, dn_nil, kd_si, kd_sl, kd_sw, mr_si, mr_sl, mr_sw, ml_si, ml_sw, mi_sl, mk_277 H, mk_278 H, mk_279 H, mk_280 H, mk_281 H, mk_282 H, mk_283 H, mk_284 H, mk_285 H, mk_286 H, mk_287 H, mk_288 H, mk_289 H, mr_1 H, mr_11 H, mr_12 H, mr_13 H, mr_14 H, mr_15 H, mr_16 H, mr_17 H, mr_18 H, mr_19 H, mr_24 H, mr_25 H, mt_k, mt_f, mt_si, mt_sl, z4, ← hG, g3, g4, ↓if_true, if_true]
    · rw [zu_o (by decide), g3]
    · rw [zu_o (by decide), g4]
    · rw [zu_same]; rfl
    · rw [zu_o (by decide), g8]
  · have ne : ¬ Int32.ofNat s = Int32.ofNat n := i32_ne (by omega) (by omega) (by omega)
    rw [if_neg c0]
    have bv : bt T n s = Int32.ofNat (T s) := if_pos (by omega)
    cases cl : isL T s with
    | true =>
      have b0 : inF (bt T n s) 97 122 = 1 := (bt_L hT).trans (if_pos ⟨by omega, cl⟩)
      rw [if_pos rfl]
      have eb := l_294b H B hsn (n - s) s 0 G (by omega) (Nat.le_refl s) g3 g8 g4
      generalize he : rn (isL T) (n - s) s = e at hl eb
      have sub1 : Int32.ofNat e - Int32.ofNat s = Int32.ofNat (e - s) := i32_sub (by omega)
      have e0 : Int64.ofNat 0 = 0 := rfl
      rw [e0] at eb
      have w4 : zu G 4 (Int32.ofNat e) 4 = Int32.ofNat e := zu_same
      have w8 : zu G 4 (Int32.ofNat e) 8 = Int32.ofNat s := by rw [zu_o (by decide), g8]
      have kk : ∀ x, keepM F (zu (zu G 4 (Int32.ofNat e)) 7 x) := fun x j h4 h7 h8 h9 => by rw [zu_o h7, zu_o h4]; exact gk j h4 h7 h8 h9
      by_cases c9 : 9 < e - s
      · have l9 : ¬ Int32.ofNat (e - s) ≤ 9 := by
          show ¬ Int32.ofNat (e - s) ≤ Int32.ofNat 9
          rw [i32_le (by omega) (by omega)]; omega
        rw [if_pos c9]
        refine ⟨zu (zu G 4 (Int32.ofNat e)) 7 0, Int64.ofNat (fl (wdS T s) (e - s) s 0), ?_, ⟨?_, ?_, ?_, ?_, (fun q => by cases q), (fun q => by cases q)⟩, kk 0⟩
        · rw [D_294_34]
          simp -implicitDefEqProofs only [D_294_0, k_294_0, k_294_8, k_294_34, D_294_66, k_294_66, k_294_84, D_294_142, k_294_142, k_294_155, D_294_174, k_294_174, D_294_175, k_294_175, D_294_181, k_294_181, k_294_204, D_294_259, k_294_259, k_294_272, D_294_291, k_294_291, D_294_292, k_294_292, D_294_298, k_294_298, D_294_316, k_294_316, D_294_317, k_294_317, D_294_330, k_294_330, R_294, v_aload_n, g_getfield, sv_i, rf_s, g_getfieldS, g_if_le, g_return, v_callV2, aft_v, aft_n, g_bipush, g_icmp_ne, g_dup_i, g_dup_r, g_iconst, g_iadd, g_put_i, g_goto, g_lconst, g_put_l, v_callS3, g_if_eq, g_isub, g_icmp_ge, g_ldc2_w, sv_j, g_lmul, g_i2l, g_ladd, g_lsub, g_icmp_le, g_imul, entL, getL, setL, kL_i, kL_r, isI_s, isR_s, isJ_s, gV_s, iV_i, cs0, cs1, cs2, cs3, cs4, dn_nil, kd_si, kd_sl, kd_sw, mr_si, mr_sl, mr_sw, ml_si, ml_sw, mi_sl, mk_277 H, mk_278 H, mk_279 H, mk_280 H, mk_281 H, mk_282 H, mk_283 H, mk_284 H, mk_285 H, mk_286 H, mk_287 H, mk_288 H, mk_289 H, mr_1 H, mr_11 H, mr_12 H, mr_13 H, mr_14 H, mr_15 H, mr_16 H, mr_17 H, mr_18 H, mr_19 H, mr_24 H, mr_25 H, mt_k, mt_f, mt_si, mt_sl, z4, ← hG, g3, g4, ↓if_neg ne, if_neg ne, gb, m_136, b0, ↓if_neg z_1, if_neg z_1, eb]
          rw [D_294_155]
          simp -implicitDefEqProofs only [D_294_0, k_294_0, k_294_8, k_294_34, D_294_66, k_294_66, k_294_84, D_294_142, k_294_142, k_294_155, D_294_174, k_294_174, D_294_175, k_294_175, D_294_181, k_294_181, k_294_204, D_294_259, k_294_259, k_294_272, D_294_291, k_294_291, D_294_292, k_294_292, D_294_298, k_294_298, D_294_316, k_294_316, D_294_317, k_294_317, D_294_330, k_294_330, R_294, v_aload_n, g_getfield, sv_i, rf_s, g_getfieldS, g_if_le, g_return, v_callV2, aft_v, aft_n, g_bipush, g_icmp_ne, g_dup_i, g_dup_r, g_iconst, g_iadd, g_put_i, g_goto, g_lconst, g_put_l, v_callS3, g_if_eq, g_isub, g_icmp_ge, g_ldc2_w, sv_j, g_lmul, g_i2l, g_ladd, g_lsub, g_icmp_le, g_imul, entL, getL, setL, kL_i, kL_r, isI_s, isR_s, isJ_s, gV_s, iV_i, cs0, cs1, cs2, cs3, cs4, dn_nil, kd_si, kd_sl, kd_sw, mr_si, mr_sl, mr_sw, ml_si, ml_sw, mi_sl, mk_277 H, mk_278 H, mk_279 H, mk_280 H, mk_281 H, mk_282 H, mk_283 H, mk_284 H, mk_285 H, mk_286 H, mk_287 H, mk_288 H, mk_289 H, mr_1 H, mr_11 H, mr_12 H, mr_13 H, mr_14 H, mr_15 H, mr_16 H, mr_17 H, mr_18 H, mr_19 H, mr_24 H, mr_25 H, mt_k, mt_f, mt_si, w4, w8, sub1, ↓if_neg l9, if_neg l9]
        · rw [zu_o (by decide), zu_o (by decide), g3]
        · rw [zu_o (by decide), w4]
        · rw [zu_same]; rfl
        · rw [zu_o (by decide), w8]
      · have l9 : Int32.ofNat (e - s) ≤ 9 := by
          show Int32.ofNat (e - s) ≤ Int32.ofNat 9
          rw [i32_le (by omega) (by omega)]; omega
        rw [if_neg c9]
        refine ⟨zu (zu G 4 (Int32.ofNat e)) 7 2, Int64.ofNat (fl (wdS T s) (e - s) s 0), ?_, ⟨?_, ?_, ?_, ?_, (fun q => by cases q), (fun _ => rfl)⟩, kk 2⟩
        · rw [D_294_34]
          simp -implicitDefEqProofs only [D_294_0, k_294_0, k_294_8, k_294_34, D_294_66, k_294_66, k_294_84, D_294_142, k_294_142, k_294_155, D_294_174, k_294_174, D_294_175, k_294_175, D_294_181, k_294_181, k_294_204, D_294_259, k_294_259, k_294_272, D_294_291, k_294_291, D_294_292, k_294_292, D_294_298, k_294_298, D_294_316, k_294_316, D_294_317, k_294_317, D_294_330, k_294_330, R_294, v_aload_n, g_getfield, sv_i, rf_s, g_getfieldS, g_if_le, g_return, v_callV2, aft_v, aft_n, g_bipush, g_icmp_ne, g_dup_i, g_dup_r, g_iconst, g_iadd, g_put_i, g_goto, g_lconst, g_put_l, v_callS3, g_if_eq, g_isub, g_icmp_ge, g_ldc2_w, sv_j, g_lmul, g_i2l, g_ladd, g_lsub, g_icmp_le, g_imul, entL, getL, setL, kL_i, kL_r, isI_s, isR_s, isJ_s, gV_s, iV_i, cs0, cs1, cs2, cs3, cs4, dn_nil, kd_si, kd_sl, kd_sw, mr_si, mr_sl, mr_sw, ml_si, ml_sw, mi_sl, mk_277 H, mk_278 H, mk_279 H, mk_280 H, mk_281 H, mk_282 H, mk_283 H, mk_284 H, mk_285 H, mk_286 H, mk_287 H, mk_288 H, mk_289 H, mr_1 H, mr_11 H, mr_12 H, mr_13 H, mr_14 H, mr_15 H, mr_16 H, mr_17 H, mr_18 H, mr_19 H, mr_24 H, mr_25 H, mt_k, mt_f, mt_si, mt_sl, z4, ← hG, g3, g4, ↓if_neg ne, if_neg ne, gb, m_136, b0, ↓if_neg z_1, if_neg z_1, eb]
          rw [D_294_155]
          simp -implicitDefEqProofs only [D_294_0, k_294_0, k_294_8, k_294_34, D_294_66, k_294_66, k_294_84, D_294_142, k_294_142, k_294_155, D_294_174, k_294_174, D_294_175, k_294_175, D_294_181, k_294_181, k_294_204, D_294_259, k_294_259, k_294_272, D_294_291, k_294_291, D_294_292, k_294_292, D_294_298, k_294_298, D_294_316, k_294_316, D_294_317, k_294_317, D_294_330, k_294_330, R_294, v_aload_n, g_getfield, sv_i, rf_s, g_getfieldS, g_if_le, g_return, v_callV2, aft_v, aft_n, g_bipush, g_icmp_ne, g_dup_i, g_dup_r, g_iconst, g_iadd, g_put_i, g_goto, g_lconst, g_put_l, v_callS3, g_if_eq, g_isub, g_icmp_ge, g_ldc2_w, sv_j, g_lmul, g_i2l, g_ladd, g_lsub, g_icmp_le, g_imul, entL, getL, setL, kL_i, kL_r, isI_s, isR_s, isJ_s, gV_s, iV_i, cs0, cs1, cs2, cs3, cs4, dn_nil, kd_si, kd_sl, kd_sw, mr_si, mr_sl, mr_sw, ml_si, ml_sw, mi_sl, mk_277 H, mk_278 H, mk_279 H, mk_280 H, mk_281 H, mk_282 H, mk_283 H, mk_284 H, mk_285 H, mk_286 H, mk_287 H, mk_288 H, mk_289 H, mr_1 H, mr_11 H, mr_12 H, mr_13 H, mr_14 H, mr_15 H, mr_16 H, mr_17 H, mr_18 H, mr_19 H, mr_24 H, mr_25 H, mt_k, mt_f, mt_si, w4, w8, sub1, ↓if_pos l9, if_pos l9]
        · rw [zu_o (by decide), zu_o (by decide), g3]
        · rw [zu_o (by decide), w4]
        · rw [zu_same]; rfl
        · rw [zu_o (by decide), w8]
    | false =>
      have b0 : inF (bt T n s) 97 122 = 0 := (bt_L hT).trans (if_neg (fun q => by rw [cl] at q; exact Bool.false_ne_true q.2))
      rw [if_neg Bool.false_ne_true]
      cases cd : isD T s with
      | true =>
        have b1 : inF (bt T n s) 48 57 = 1 := (bt_D hT).trans (if_pos ⟨by omega, cd⟩)
        rw [if_pos rfl]
        have ec := l_294c H B hsn (w := 0) (n - s) s 0 (zu G 9 0) (by omega) (Nat.le_refl s) (by rw [zu_o (by decide), g3]) (by rw [zu_o (by decide), g8]) (by rw [zu_o (by decide), g4]) zu_same
        rw [zu_zu] at ec
        generalize hvv : fl (vlS T s) (rn (isD T) (n - s) s - s) s 0 = vv at ec
        generalize he : rn (isD T) (n - s) s = e at hd ec
        have sub1 : Int32.ofNat e - Int32.ofNat s = Int32.ofNat (e - s) := i32_sub (by omega)
        have w4 : zu (zu G 9 (Int32.ofNat vv)) 4 (Int32.ofNat e) 4 = Int32.ofNat e := zu_same
        have w8 : zu (zu G 9 (Int32.ofNat vv)) 4 (Int32.ofNat e) 8 = Int32.ofNat s := by rw [zu_o (by decide), zu_o (by decide), g8]
        have kk : ∀ x, keepM F (zu (zu (zu G 9 (Int32.ofNat vv)) 4 (Int32.ofNat e)) 7 x) := fun x j h4 h7 h8 h9 => by rw [zu_o h7, zu_o h4, zu_o h9]; exact gk j h4 h7 h8 h9
        by_cases c6 : 6 < e - s
        · have l6 : ¬ Int32.ofNat (e - s) ≤ 6 := by
            show ¬ Int32.ofNat (e - s) ≤ Int32.ofNat 6
            rw [i32_le (by omega) (by omega)]; omega
          rw [if_pos c6]
          refine ⟨zu (zu (zu G 9 (Int32.ofNat vv)) 4 (Int32.ofNat e)) 7 0, 0, ?_, ⟨?_, ?_, ?_, ?_, (fun q => by cases q), (fun q => by cases q)⟩, kk 0⟩
          · rw [D_294_34]
            simp -implicitDefEqProofs only [D_294_0, k_294_0, k_294_8, k_294_34, D_294_66, k_294_66, k_294_84, D_294_142, k_294_142, k_294_155, D_294_174, k_294_174, D_294_175, k_294_175, D_294_181, k_294_181, k_294_204, D_294_259, k_294_259, k_294_272, D_294_291, k_294_291, D_294_292, k_294_292, D_294_298, k_294_298, D_294_316, k_294_316, D_294_317, k_294_317, D_294_330, k_294_330, R_294, v_aload_n, g_getfield, sv_i, rf_s, g_getfieldS, g_if_le, g_return, v_callV2, aft_v, aft_n, g_bipush, g_icmp_ne, g_dup_i, g_dup_r, g_iconst, g_iadd, g_put_i, g_goto, g_lconst, g_put_l, v_callS3, g_if_eq, g_isub, g_icmp_ge, g_ldc2_w, sv_j, g_lmul, g_i2l, g_ladd, g_lsub, g_icmp_le, g_imul, entL, getL, setL, kL_i, kL_r, isI_s, isR_s, isJ_s, gV_s, iV_i, cs0, cs1, cs2, cs3, cs4, dn_nil, kd_si, kd_sl, kd_sw, mr_si, mr_sl, mr_sw, ml_si, ml_sw, mi_sl, mk_277 H, mk_278 H, mk_279 H, mk_280 H, mk_281 H, mk_282 H, mk_283 H, mk_284 H, mk_285 H, mk_286 H, mk_287 H, mk_288 H, mk_289 H, mr_1 H, mr_11 H, mr_12 H, mr_13 H, mr_14 H, mr_15 H, mr_16 H, mr_17 H, mr_18 H, mr_19 H, mr_24 H, mr_25 H, mt_k, mt_f, mt_si, mt_sl, z4, ← hG, g3, g4, ↓if_neg ne, if_neg ne, gb, m_136, b0, b1, ↓if_neg z_1, if_neg z_1, ↓if_true, if_true, ec]
            rw [D_294_272]
            simp -implicitDefEqProofs only [D_294_0, k_294_0, k_294_8, k_294_34, D_294_66, k_294_66, k_294_84, D_294_142, k_294_142, k_294_155, D_294_174, k_294_174, D_294_175, k_294_175, D_294_181, k_294_181, k_294_204, D_294_259, k_294_259, k_294_272, D_294_291, k_294_291, D_294_292, k_294_292, D_294_298, k_294_298, D_294_316, k_294_316, D_294_317, k_294_317, D_294_330, k_294_330, R_294, v_aload_n, g_getfield, sv_i, rf_s, g_getfieldS, g_if_le, g_return, v_callV2, aft_v, aft_n, g_bipush, g_icmp_ne, g_dup_i, g_dup_r, g_iconst, g_iadd, g_put_i, g_goto, g_lconst, g_put_l, v_callS3, g_if_eq, g_isub, g_icmp_ge, g_ldc2_w, sv_j, g_lmul, g_i2l, g_ladd, g_lsub, g_icmp_le, g_imul, entL, getL, setL, kL_i, kL_r, isI_s, isR_s, isJ_s, gV_s, iV_i, cs0, cs1, cs2, cs3, cs4, dn_nil, kd_si, kd_sl, kd_sw, mr_si, mr_sl, mr_sw, ml_si, ml_sw, mi_sl, mk_277 H, mk_278 H, mk_279 H, mk_280 H, mk_281 H, mk_282 H, mk_283 H, mk_284 H, mk_285 H, mk_286 H, mk_287 H, mk_288 H, mk_289 H, mr_1 H, mr_11 H, mr_12 H, mr_13 H, mr_14 H, mr_15 H, mr_16 H, mr_17 H, mr_18 H, mr_19 H, mr_24 H, mr_25 H, mt_k, mt_f, mt_si, w4, w8, sub1, ↓if_neg l6, if_neg l6]
          · rw [zu_o (by decide), zu_o (by decide), zu_o (by decide), g3]
          · rw [zu_o (by decide), w4]
          · rw [zu_same]; rfl
          · rw [zu_o (by decide), w8]
        · have l6 : Int32.ofNat (e - s) ≤ 6 := by
            show Int32.ofNat (e - s) ≤ Int32.ofNat 6
            rw [i32_le (by omega) (by omega)]; omega
          rw [if_neg c6]
          refine ⟨zu (zu (zu G 9 (Int32.ofNat vv)) 4 (Int32.ofNat e)) 7 3, 0, ?_, ⟨?_, ?_, ?_, ?_, (fun _ => ?_), (fun q => by cases q)⟩, kk 3⟩
          · rw [D_294_34]
            simp -implicitDefEqProofs only [D_294_0, k_294_0, k_294_8, k_294_34, D_294_66, k_294_66, k_294_84, D_294_142, k_294_142, k_294_155, D_294_174, k_294_174, D_294_175, k_294_175, D_294_181, k_294_181, k_294_204, D_294_259, k_294_259, k_294_272, D_294_291, k_294_291, D_294_292, k_294_292, D_294_298, k_294_298, D_294_316, k_294_316, D_294_317, k_294_317, D_294_330, k_294_330, R_294, v_aload_n, g_getfield, sv_i, rf_s, g_getfieldS, g_if_le, g_return, v_callV2, aft_v, aft_n, g_bipush, g_icmp_ne, g_dup_i, g_dup_r, g_iconst, g_iadd, g_put_i, g_goto, g_lconst, g_put_l, v_callS3, g_if_eq, g_isub, g_icmp_ge, g_ldc2_w, sv_j, g_lmul, g_i2l, g_ladd, g_lsub, g_icmp_le, g_imul, entL, getL, setL, kL_i, kL_r, isI_s, isR_s, isJ_s, gV_s, iV_i, cs0, cs1, cs2, cs3, cs4, dn_nil, kd_si, kd_sl, kd_sw, mr_si, mr_sl, mr_sw, ml_si, ml_sw, mi_sl, mk_277 H, mk_278 H, mk_279 H, mk_280 H, mk_281 H, mk_282 H, mk_283 H, mk_284 H, mk_285 H, mk_286 H, mk_287 H, mk_288 H, mk_289 H, mr_1 H, mr_11 H, mr_12 H, mr_13 H, mr_14 H, mr_15 H, mr_16 H, mr_17 H, mr_18 H, mr_19 H, mr_24 H, mr_25 H, mt_k, mt_f, mt_si, mt_sl, z4, ← hG, g3, g4, ↓if_neg ne, if_neg ne, gb, m_136, b0, b1, ↓if_neg z_1, if_neg z_1, ↓if_true, if_true, ec]
            rw [D_294_272]
            simp -implicitDefEqProofs only [D_294_0, k_294_0, k_294_8, k_294_34, D_294_66, k_294_66, k_294_84, D_294_142, k_294_142, k_294_155, D_294_174, k_294_174, D_294_175, k_294_175, D_294_181, k_294_181, k_294_204, D_294_259, k_294_259, k_294_272, D_294_291, k_294_291, D_294_292, k_294_292, D_294_298, k_294_298, D_294_316, k_294_316, D_294_317, k_294_317, D_294_330, k_294_330, R_294, v_aload_n, g_getfield, sv_i, rf_s, g_getfieldS, g_if_le, g_return, v_callV2, aft_v, aft_n, g_bipush, g_icmp_ne, g_dup_i, g_dup_r, g_iconst, g_iadd, g_put_i, g_goto, g_lconst, g_put_l, v_callS3, g_if_eq, g_isub, g_icmp_ge, g_ldc2_w, sv_j, g_lmul, g_i2l, g_ladd, g_lsub, g_icmp_le, g_imul, entL, getL, setL, kL_i, kL_r, isI_s, isR_s, isJ_s, gV_s, iV_i, cs0, cs1, cs2, cs3, cs4, dn_nil, kd_si, kd_sl, kd_sw, mr_si, mr_sl, mr_sw, ml_si, ml_sw, mi_sl, mk_277 H, mk_278 H, mk_279 H, mk_280 H, mk_281 H, mk_282 H, mk_283 H, mk_284 H, mk_285 H, mk_286 H, mk_287 H, mk_288 H, mk_289 H, mr_1 H, mr_11 H, mr_12 H, mr_13 H, mr_14 H, mr_15 H, mr_16 H, mr_17 H, mr_18 H, mr_19 H, mr_24 H, mr_25 H, mt_k, mt_f, mt_si, w4, w8, sub1, ↓if_pos l6, if_pos l6]
          · rw [zu_o (by decide), zu_o (by decide), zu_o (by decide), g3]
          · rw [zu_o (by decide), w4]
          · rw [zu_same]; rfl
          · rw [zu_o (by decide), w8]
          · rw [zu_o (by decide), zu_o (by decide), zu_same]
      | false =>
        have b1 : inF (bt T n s) 48 57 = 0 := (bt_D hT).trans (if_neg (fun q => by rw [cd] at q; exact Bool.false_ne_true q.2))
        rw [if_neg Bool.false_ne_true]
        have s1 : Int32.ofNat (s) + 1 = Int32.ofNat (s + 1) := i32_add (b := 1)
        have t1 := hT s (by omega)
        have kk : ∀ x, keepM F (zu (zu G 7 x) 4 (Int32.ofNat (s + 1))) := fun x j h4 h7 h8 h9 => by rw [zu_o h4, zu_o h7]; exact gk j h4 h7 h8 h9
        have w4 : ∀ x, zu G 7 x 4 = Int32.ofNat s := fun x => by rw [zu_o (by decide), g4]
        by_cases c59 : T s = 59
        · have q59 : bt T n s = 59 := by rw [bv, c59]; rfl
          rw [if_pos c59]
          refine ⟨zu (zu G 7 4) 4 (Int32.ofNat (s + 1)), 0, ?_, ⟨?_, ?_, ?_, ?_, (fun q => by cases q), (fun q => by cases q)⟩, kk 4⟩
          · rw [D_294_34]
            simp -implicitDefEqProofs only [D_294_0, k_294_0, k_294_8, k_294_34, D_294_66, k_294_66, k_294_84, D_294_142, k_294_142, k_294_155, D_294_174, k_294_174, D_294_175, k_294_175, D_294_181, k_294_181, k_294_204, D_294_259, k_294_259, k_294_272, D_294_291, k_294_291, D_294_292, k_294_292, D_294_298, k_294_298, D_294_316, k_294_316, D_294_317, k_294_317, D_294_330, k_294_330, R_294, v_aload_n, g_getfield, sv_i, rf_s, g_getfieldS, g_if_le, g_return, v_callV2, aft_v, aft_n, g_bipush, g_icmp_ne, g_dup_i, g_dup_r, g_iconst, g_iadd, g_put_i, g_goto, g_lconst, g_put_l, v_callS3, g_if_eq, g_isub, g_icmp_ge, g_ldc2_w, sv_j, g_lmul, g_i2l, g_ladd, g_lsub, g_icmp_le, g_imul, entL, getL, setL, kL_i, kL_r, isI_s, isR_s, isJ_s, gV_s, iV_i, cs0, cs1, cs2, cs3, cs4, dn_nil, kd_si, kd_sl, kd_sw, mr_si, mr_sl, mr_sw, ml_si, ml_sw, mi_sl, mk_277 H, mk_278 H, mk_279 H, mk_280 H, mk_281 H, mk_282 H, mk_283 H, mk_284 H, mk_285 H, mk_286 H, mk_287 H, mk_288 H, mk_289 H, mr_1 H, mr_11 H, mr_12 H, mr_13 H, mr_14 H, mr_15 H, mr_16 H, mr_17 H, mr_18 H, mr_19 H, mr_24 H, mr_25 H, mt_k, mt_f, mt_si, mt_sl, z4, ← hG, g3, g4, ↓if_neg ne, if_neg ne, gb, m_136, b0, b1, ↓if_pos q59, if_pos q59, ↓if_true, if_true, w4, s1]
          · rw [zu_o (by decide), zu_o (by decide), g3]
          · rw [zu_same]
          · rw [zu_o (by decide), zu_same]; rfl
          · rw [zu_o (by decide), zu_o (by decide), g8]
        · have q59 : ¬ bt T n s = 59 := by
            rw [bv]
            show ¬ Int32.ofNat (T s) = Int32.ofNat 59
            exact i32_ne (by omega) (by omega) c59
          rw [if_neg c59]
          refine ⟨zu (zu G 7 0) 4 (Int32.ofNat (s + 1)), 0, ?_, ⟨?_, ?_, ?_, ?_, (fun q => by cases q), (fun q => by cases q)⟩, kk 0⟩
          · rw [D_294_34]
            simp -implicitDefEqProofs only [D_294_0, k_294_0, k_294_8, k_294_34, D_294_66, k_294_66, k_294_84, D_294_142, k_294_142, k_294_155, D_294_174, k_294_174, D_294_175, k_294_175, D_294_181, k_294_181, k_294_204, D_294_259, k_294_259, k_294_272, D_294_291, k_294_291, D_294_292, k_294_292, D_294_298, k_294_298, D_294_316, k_294_316, D_294_317, k_294_317, D_294_330, k_294_330, R_294, v_aload_n, g_getfield, sv_i, rf_s, g_getfieldS, g_if_le, g_return, v_callV2, aft_v, aft_n, g_bipush, g_icmp_ne, g_dup_i, g_dup_r, g_iconst, g_iadd, g_put_i, g_goto, g_lconst, g_put_l, v_callS3, g_if_eq, g_isub, g_icmp_ge, g_ldc2_w, sv_j, g_lmul, g_i2l, g_ladd, g_lsub, g_icmp_le, g_imul, entL, getL, setL, kL_i, kL_r, isI_s, isR_s, isJ_s, gV_s, iV_i, cs0, cs1, cs2, cs3, cs4, dn_nil, kd_si, kd_sl, kd_sw, mr_si, mr_sl, mr_sw, ml_si, ml_sw, mi_sl, mk_277 H, mk_278 H, mk_279 H, mk_280 H, mk_281 H, mk_282 H, mk_283 H, mk_284 H, mk_285 H, mk_286 H, mk_287 H, mk_288 H, mk_289 H, mr_1 H, mr_11 H, mr_12 H, mr_13 H, mr_14 H, mr_15 H, mr_16 H, mr_17 H, mr_18 H, mr_19 H, mr_24 H, mr_25 H, mt_k, mt_f, mt_si, mt_sl, z4, ← hG, g3, g4, ↓if_neg ne, if_neg ne, gb, m_136, b0, b1, ↓if_neg q59, if_neg q59, ↓if_true, if_true, w4, s1]
          · rw [zu_o (by decide), zu_o (by decide), g3]
          · rw [zu_same]
          · rw [zu_o (by decide), zu_same]; rfl
          · rw [zu_o (by decide), zu_o (by decide), g8]
end ST294
