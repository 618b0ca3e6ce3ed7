-- ===== tokens of a text: T its bytes, n their number =====
def rn (q : Nat → Bool) : Nat → Nat → Nat
  | 0, i => i
  | d + 1, i => if q i = true then rn q d (i + 1) else i
theorem rn_le {q : Nat → Bool} : ∀ d i, i ≤ rn q d i ∧ rn q d i ≤ i + d := by
  intro d
  induction d with
  | zero => intro i; exact ⟨Nat.le_refl _, Nat.le_refl _⟩
  | succ d ih =>
    intro i
    unfold rn
    split
    · have := ih (i + 1); omega
    · omega
theorem rn_in {q : Nat → Bool} : ∀ d i j, i ≤ j → j < rn q d i → q j = true := by
  intro d
  induction d with
  | zero => intro i j h1 h2; unfold rn at h2; omega
  | succ d ih =>
    intro i j h1 h2
    unfold rn at h2
    split at h2
    · rename_i c
      by_cases e : j = i
      · rw [e]; exact c
      · exact ih (i + 1) j (by omega) h2
    · omega
theorem rn_end {q : Nat → Bool} : ∀ d i, rn q d i < i + d → q (rn q d i) = false := by
  intro d
  induction d with
  | zero => intro i h; unfold rn at h; omega
  | succ d ih =>
    intro i h
    unfold rn at h ⊢
    split
    · rename_i c
      rw [if_pos c] at h
      exact ih (i + 1) (by omega)
    · rename_i c
      cases e : q i with
      | true => exact absurd e c
      | false => rfl
def isL (T : Nat → Nat) (j : Nat) : Bool := decide (97 ≤ T j ∧ T j ≤ 122)
def isD (T : Nat → Nat) (j : Nat) : Bool := decide (48 ≤ T j ∧ T j ≤ 57)
def isB (T : Nat → Nat) (j : Nat) : Bool := decide (T j = 32)
def vlS (T : Nat → Nat) (s j v : Nat) : Nat := if j - s < 6 then v * 10 + (T j - 48) else v
/-- start, end, kind (0 end, 1 bad, 2 word, 3 number, 4 semicolon), value -/
abbrev Tok : Type := Nat × Nat × Nat × Nat
def tokS (T : Nat → Nat) (n s : Nat) : Tok :=
  if n ≤ s then (s, s, 0, 0)
  else if isL T s = true then (s, rn (isL T) (n - s) s, (if 9 < rn (isL T) (n - s) s - s then 1 else 2), 0)
  else if isD T s = true then (s, rn (isD T) (n - s) s, (if 6 < rn (isD T) (n - s) s - s then 1 else 3), fl (vlS T s) (rn (isD T) (n - s) s - s) s 0)
  else (s, s + 1, (if T s = 59 then 4 else 1), 0)
def tok (T : Nat → Nat) (n p : Nat) : Tok := tokS T n (rn (isB T) (n - p) p)
theorem tok_le {T : Nat → Nat} {n p : Nat} (hp : p ≤ n) : p ≤ (tok T n p).1 ∧ (tok T n p).1 ≤ (tok T n p).2.1 ∧ (tok T n p).2.1 ≤ n := by
  have h1 := rn_le (q := isB T) (n - p) p
  unfold tok tokS
  generalize rn (isB T) (n - p) p = s at h1
  have h2 := rn_le (q := isL T) (n - s) s
  have h3 := rn_le (q := isD T) (n - s) s
  split
  · dsimp only; omega
  · split
    · dsimp only; omega
    · split
      · dsimp only; omega
      · dsimp only; omega
def sb8 (t : Nat) : Int32 := (Int32.ofNat t).toInt8.toInt32
theorem sb_ok {t : Nat} (ht : t < 256) : (sb8 t = 32 ↔ t = 32) ∧ (sb8 t < 97 ↔ (t < 97 ∨ 128 ≤ t)) ∧ (122 < sb8 t ↔ (122 < t ∧ t < 128)) ∧ (sb8 t < 48 ↔ (t < 48 ∨ 128 ≤ t)) ∧ (57 < sb8 t ↔ (57 < t ∧ t < 128)) ∧ (sb8 t = 59 ↔ t = 59) ∧ (t < 128 → sb8 t = Int32.ofNat t) := by
  have : ∀ j : Fin 256, (sb8 j.val = 32 ↔ j.val = 32) ∧ (sb8 j.val < 97 ↔ (j.val < 97 ∨ 128 ≤ j.val)) ∧ (122 < sb8 j.val ↔ (122 < j.val ∧ j.val < 128)) ∧ (sb8 j.val < 48 ↔ (j.val < 48 ∨ 128 ≤ j.val)) ∧ (57 < sb8 j.val ↔ (57 < j.val ∧ j.val < 128)) ∧ (sb8 j.val = 59 ↔ j.val = 59) ∧ (j.val < 128 → sb8 j.val = Int32.ofNat j.val) := by decide +kernel
  exact this ⟨t, ht⟩
/-- the class's token -/
def TK (F : Nat → Int32) (n : Nat) (t : Tok) : Prop := F 1 = Int32.ofNat n ∧ F 2 = Int32.ofNat t.1 ∧ F 3 = Int32.ofNat t.2.1 ∧ F 4 = Int32.ofNat t.2.2.1 ∧ (t.2.2.1 = 3 → F 5 = Int32.ofNat t.2.2.2)
/-- the class's tokens at k read the text -/
def TKO (h : Mm) (k n : Nat) (T : Nat → Nat) : Prop := h.kd k = some (.inl 6) ∧ h.mr k 0 = some 201 ∧ h.kd 201 = some (.inr (.byte, 1500)) ∧ k ≠ 201 ∧ n ≤ 1500 ∧ ∀ j, j < n → T j < 256 ∧ h.mi 201 j = sb8 (T j)
theorem vl_lt {T : Nat → Nat} {s : Nat} : ∀ d i v, s ≤ i → i + d ≤ s + d + (i - s) → (∀ j, i ≤ j → j < i + d → T j ≤ 57) → v < 10 ^ (min (i - s) 6) → fl (vlS T s) d i v < 10 ^ (min (i + d - s) 6) := by
  intro d
  induction d with
  | zero => intro i v h1 h2 h3 h4; exact h4
  | succ d ih =>
    intro i v h1 h2 h3 h4
    show fl (vlS T s) d (i + 1) (vlS T s i v) < 10 ^ (min (i + (d + 1) - s) 6)
    rw [show i + (d + 1) = i + 1 + d by omega]
    refine ih (i + 1) _ (by omega) (by omega) (fun j a b => h3 j (by omega) (by omega)) ?_
    have ht := h3 i (Nat.le_refl _) (by omega)
    unfold vlS
    split
    · rename_i c
      rw [show min (i - s) 6 = i - s by omega] at h4
      rw [show min (i + 1 - s) 6 = i - s + 1 by omega, Nat.pow_succ]
      omega
    · rename_i c
      rw [show min (i - s) 6 = 6 by omega] at h4
      rw [show min (i + 1 - s) 6 = 6 by omega]
      exact h4
theorem zu_zu {α : Type} {f : Nat → α} {k : Nat} {a b : α} : zu (zu f k a) k b = zu f k b := by
  funext j; unfold zu; split <;> rfl
theorem zu_id {α : Type} {f : Nat → α} {k : Nat} {a : α} (h : f k = a) : zu f k a = f := by
  funext j; unfold zu; split
  · rename_i q; rw [q, h]
  · rfl
theorem R_326 : PG.2.1 326 = none := rfl
section ST326
variable {h : Mm} {k n : Nat} {T : Nat → Nat}
theorem l_326a (H : TKO h k n T) : ∀ (d p : Nat) (F : Nat → Int32), p + d = n → F 1 = Int32.ofNat n → F 3 = Int32.ofNat p → dB PG 326 0 [some (.ref k)] [] (h.sw k F) = dB PG 326 38 [some (.ref k)] [] (h.sw k (zu F 3 (Int32.ofNat (rn (isB T) d p)))) := by
  obtain ⟨k1, r0, k2, hk, hn, hT⟩ := H
  have h201 : (201 : Nat) ≠ k := Ne.symm hk
  intro d
  induction d with
  | zero =>
    intro p F hp f1 f3
    have e : Int32.ofNat (n) ≤ Int32.ofNat (p) := by rw [i32_le (by omega) (by omega)]; omega
    have z : zu F 3 (Int32.ofNat (rn (isB T) 0 p)) = F := zu_id f3
    rw [z, D_326_0]
    simp -implicitDefEqProofs only [k_326_0, k_326_38, k_326_51, D_326_103, k_326_103, D_326_133, k_326_133, D_326_134, k_326_134, k_326_138, D_326_215, k_326_215, D_326_228, k_326_228, D_326_258, k_326_258, D_326_259, k_326_259, D_326_265, k_326_265, D_326_284, k_326_284, D_326_303, k_326_303, D_326_304, k_326_304, D_326_317, k_326_317, R_326, v_aload_n, g_getfield, sv_i, rf_s, g_getfieldS, g_icmp_ge, sv_a, v_baload, inB_0, inB_1, g_bipush, g_icmp_ne, g_dup_i, g_dup_r, g_iconst, g_iadd, g_put_i, g_goto, g_icmp_lt, g_icmp_gt, g_icmp_le, g_isub, g_return, g_imul, entL, getL, setL, kL_i, kL_r, isI_s, isR_s, isJ_s, gV_s, iV_i, cs0, cs1, cs2, cs3, cs4, dn_nil, kd_si, kd_sl, kd_sw, mr_si, mr_sl, mr_sw, ml_si, ml_sw, mi_sl, k1, r0, k2, mi_sw, f1, f3, ↓if_pos e, if_pos e]
  | succ d ih =>
    intro p F hp f1 f3
    have e : ¬ Int32.ofNat (n) ≤ Int32.ofNat (p) := by rw [i32_le (by omega) (by omega)]; omega
    have s1 : Int32.ofNat (p) + 1 = Int32.ofNat (p + 1) := i32_add (b := 1)
    have b_1 : inb (Int32.ofNat (p)) 1500 = true := inb_nat (by omega) (by decide)
    have n_1 : (Int32.ofNat (p)).toNatClampNeg = p := i32_nat (by omega)
    obtain ⟨t1, t2⟩ := hT p (by omega)
    have sk := (sb_ok t1).1
    by_cases c : T p = 32
    · have c2 : sb8 (T p) = 32 := sk.mpr c
      have z : rn (isB T) (d + 1) p = rn (isB T) d (p + 1) := if_pos (decide_eq_true c)
      have r := ih (p + 1) (zu F 3 (Int32.ofNat (p + 1))) (by omega) (by rw [zu_o (by decide), f1]) zu_same
      rw [zu_zu] at r
      rw [z, ← r, D_326_0]
      simp -implicitDefEqProofs only [k_326_0, k_326_38, k_326_51, D_326_103, k_326_103, D_326_133, k_326_133, D_326_134, k_326_134, k_326_138, D_326_215, k_326_215, D_326_228, k_326_228, D_326_258, k_326_258, D_326_259, k_326_259, D_326_265, k_326_265, D_326_284, k_326_284, D_326_303, k_326_303, D_326_304, k_326_304, D_326_317, k_326_317, R_326, v_aload_n, g_getfield, sv_i, rf_s, g_getfieldS, g_icmp_ge, sv_a, v_baload, inB_0, inB_1, g_bipush, g_icmp_ne, g_dup_i, g_dup_r, g_iconst, g_iadd, g_put_i, g_goto, g_icmp_lt, g_icmp_gt, g_icmp_le, g_isub, g_return, g_imul, entL, getL, setL, kL_i, kL_r, isI_s, isR_s, isJ_s, gV_s, iV_i, cs0, cs1, cs2, cs3, cs4, dn_nil, kd_si, kd_sl, kd_sw, mr_si, mr_sl, mr_sw, ml_si, ml_sw, mi_sl, k1, r0, k2, mi_sw, mi_swo h201, f1, f3, ↓if_neg e, if_neg e, b_1, n_1, t2, ↓if_pos c2, if_pos c2, si_sw (a := k), sw_sw, s1]
    · have c2 : ¬ sb8 (T p) = 32 := fun q => c (sk.mp q)
      have z : rn (isB T) (d + 1) p = p := if_neg (by unfold isB; rw [decide_eq_false c]; decide)
      rw [z, zu_id f3, D_326_0]
      simp -implicitDefEqProofs only [k_326_0, k_326_38, k_326_51, D_326_103, k_326_103, D_326_133, k_326_133, D_326_134, k_326_134, k_326_138, D_326_215, k_326_215, D_326_228, k_326_228, D_326_258, k_326_258, D_326_259, k_326_259, D_326_265, k_326_265, D_326_284, k_326_284, D_326_303, k_326_303, D_326_304, k_326_304, D_326_317, k_326_317, R_326, v_aload_n, g_getfield, sv_i, rf_s, g_getfieldS, g_icmp_ge, sv_a, v_baload, inB_0, inB_1, g_bipush, g_icmp_ne, g_dup_i, g_dup_r, g_iconst, g_iadd, g_put_i, g_goto, g_icmp_lt, g_icmp_gt, g_icmp_le, g_isub, g_return, g_imul, entL, getL, setL, kL_i, kL_r, isI_s, isR_s, isJ_s, gV_s, iV_i, cs0, cs1, cs2, cs3, cs4, dn_nil, kd_si, kd_sl, kd_sw, mr_si, mr_sl, mr_sw, ml_si, ml_sw, mi_sl, k1, r0, k2, mi_sw, mi_swo h201, f1, f3, ↓if_neg e, if_neg e, b_1, n_1, t2, ↓if_neg c2, if_neg c2]
theorem l_326b (H : TKO h k n T) : ∀ (d p : Nat) (F : Nat → Int32), p + d = n → F 1 = Int32.ofNat n → F 3 = Int32.ofNat p → dB PG 326 51 [some (.ref k)] [] (h.sw k F) = dB PG 326 103 [some (.ref k)] [] (h.sw k (zu F 3 (Int32.ofNat (rn (isL T) d p)))) := by
  obtain ⟨k1, r0, k2, hk, hn, hT⟩ := H
  have h201 : (201 : Nat) ≠ k := Ne.symm hk
  intro d
  induction d with
  | zero =>
    intro p F hp f1 f3
    have e : Int32.ofNat (n) ≤ Int32.ofNat (p) := by rw [i32_le (by omega) (by omega)]; omega
    have z : zu F 3 (Int32.ofNat (rn (isL T) 0 p)) = F := zu_id f3
    rw [z, D_326_51]
    simp -implicitDefEqProofs only [k_326_0, k_326_38, k_326_51, k_326_103, D_326_133, k_326_133, D_326_134, k_326_134, k_326_138, D_326_215, k_326_215, D_326_228, k_326_228, D_326_258, k_326_258, D_326_259, k_326_259, D_326_265, k_326_265, D_326_284, k_326_284, D_326_303, k_326_303, D_326_304, k_326_304, D_326_317, k_326_317, R_326, v_aload_n, g_getfield, sv_i, rf_s, g_getfieldS, g_icmp_ge, sv_a, v_baload, inB_0, inB_1, g_bipush, g_icmp_ne, g_dup_i, g_dup_r, g_iconst, g_iadd, g_put_i, g_goto, g_icmp_lt, g_icmp_gt, g_icmp_le, g_isub, g_return, g_imul, entL, getL, setL, kL_i, kL_r, isI_s, isR_s, isJ_s, gV_s, iV_i, cs0, cs1, cs2, cs3, cs4, dn_nil, kd_si, kd_sl, kd_sw, mr_si, mr_sl, mr_sw, ml_si, ml_sw, mi_sl, k1, r0, k2, mi_sw, f1, f3, ↓if_pos e, if_pos e]
  | succ d ih =>
    intro p F hp f1 f3
    have e : ¬ Int32.ofNat (n) ≤ Int32.ofNat (p) := by rw [i32_le (by omega) (by omega)]; omega
    have s1 : Int32.ofNat (p) + 1 = Int32.ofNat (p + 1) := i32_add (b := 1)
    have b_1 : inb (Int32.ofNat (p)) 1500 = true := inb_nat (by omega) (by decide)
    have n_1 : (Int32.ofNat (p)).toNatClampNeg = p := i32_nat (by omega)
    obtain ⟨t1, t2⟩ := hT p (by omega)
    obtain ⟨-, sl, sg, -⟩ := sb_ok t1
    by_cases c : 97 ≤ T p ∧ T p ≤ 122
    · have c2 : ¬ sb8 (T p) < 97 := fun q => by have := sl.mp q; omega
      have c3 : ¬ 122 < sb8 (T p) := fun q => by have := sg.mp q; omega
      have z : rn (isL T) (d + 1) p = rn (isL T) d (p + 1) := if_pos (decide_eq_true c)
      have r := ih (p + 1) (zu F 3 (Int32.ofNat (p + 1))) (by omega) (by rw [zu_o (by decide), f1]) zu_same
      rw [zu_zu] at r
      rw [z, ← r, D_326_51]
      simp -implicitDefEqProofs only [k_326_0, k_326_38, k_326_51, k_326_103, D_326_133, k_326_133, D_326_134, k_326_134, k_326_138, D_326_215, k_326_215, D_326_228, k_326_228, D_326_258, k_326_258, D_326_259, k_326_259, D_326_265, k_326_265, D_326_284, k_326_284, D_326_303, k_326_303, D_326_304, k_326_304, D_326_317, k_326_317, R_326, v_aload_n, g_getfield, sv_i, rf_s, g_getfieldS, g_icmp_ge, sv_a, v_baload, inB_0, inB_1, g_bipush, g_icmp_ne, g_dup_i, g_dup_r, g_iconst, g_iadd, g_put_i, g_goto, g_icmp_lt, g_icmp_gt, g_icmp_le, g_isub, g_return, g_imul, entL, getL, setL, kL_i, kL_r, isI_s, isR_s, isJ_s, gV_s, iV_i, cs0, cs1, cs2, cs3, cs4, dn_nil, kd_si, kd_sl, kd_sw, mr_si, mr_sl, mr_sw, ml_si, ml_sw, mi_sl, k1, r0, k2, mi_sw, mi_swo h201, f1, f3, ↓if_neg e, if_neg e, b_1, n_1, t2, ↓if_neg c2, if_neg c2, ↓if_neg c3, if_neg c3, si_sw (a := k), sw_sw, s1]
    · have z : rn (isL T) (d + 1) p = p := if_neg (by unfold isL; rw [decide_eq_false c]; decide)
      rw [z, zu_id f3, D_326_51]
      by_cases c2 : sb8 (T p) < 97
      · simp -implicitDefEqProofs only [k_326_0, k_326_38, k_326_51, k_326_103, D_326_133, k_326_133, D_326_134, k_326_134, k_326_138, D_326_215, k_326_215, D_326_228, k_326_228, D_326_258, k_326_258, D_326_259, k_326_259, D_326_265, k_326_265, D_326_284, k_326_284, D_326_303, k_326_303, D_326_304, k_326_304, D_326_317, k_326_317, R_326, v_aload_n, g_getfield, sv_i, rf_s, g_getfieldS, g_icmp_ge, sv_a, v_baload, inB_0, inB_1, g_bipush, g_icmp_ne, g_dup_i, g_dup_r, g_iconst, g_iadd, g_put_i, g_goto, g_icmp_lt, g_icmp_gt, g_icmp_le, g_isub, g_return, g_imul, entL, getL, setL, kL_i, kL_r, isI_s, isR_s, isJ_s, gV_s, iV_i, cs0, cs1, cs2, cs3, cs4, dn_nil, kd_si, kd_sl, kd_sw, mr_si, mr_sl, mr_sw, ml_si, ml_sw, mi_sl, k1, r0, k2, mi_sw, mi_swo h201, f1, f3, ↓if_neg e, if_neg e, b_1, n_1, t2, ↓if_pos c2, if_pos c2]
      · have c3 : 122 < sb8 (T p) := sg.mpr (by
          have : ¬ (T p < 97 ∨ 128 ≤ T p) := fun q => c2 (sl.mpr q)
          omega)
        simp -implicitDefEqProofs only [k_326_0, k_326_38, k_326_51, k_326_103, D_326_133, k_326_133, D_326_134, k_326_134, k_326_138, D_326_215, k_326_215, D_326_228, k_326_228, D_326_258, k_326_258, D_326_259, k_326_259, D_326_265, k_326_265, D_326_284, k_326_284, D_326_303, k_326_303, D_326_304, k_326_304, D_326_317, k_326_317, R_326, v_aload_n, g_getfield, sv_i, rf_s, g_getfieldS, g_icmp_ge, sv_a, v_baload, inB_0, inB_1, g_bipush, g_icmp_ne, g_dup_i, g_dup_r, g_iconst, g_iadd, g_put_i, g_goto, g_icmp_lt, g_icmp_gt, g_icmp_le, g_isub, g_return, g_imul, entL, getL, setL, kL_i, kL_r, isI_s, isR_s, isJ_s, gV_s, iV_i, cs0, cs1, cs2, cs3, cs4, dn_nil, kd_si, kd_sl, kd_sw, mr_si, mr_sl, mr_sw, ml_si, ml_sw, mi_sl, k1, r0, k2, mi_sw, mi_swo h201, f1, f3, ↓if_neg e, if_neg e, b_1, n_1, t2, ↓if_neg c2, if_neg c2, ↓if_pos c3, if_pos c3]
theorem l_326c (H : TKO h k n T) {s : Nat} (hs : s ≤ n) : ∀ (d p v : Nat) (F : Nat → Int32), p + d = n → s ≤ p → F 1 = Int32.ofNat n → F 2 = Int32.ofNat s → F 3 = Int32.ofNat p → F 5 = Int32.ofNat v → dB PG 326 138 [some (.ref k)] [] (h.sw k F) = dB PG 326 228 [some (.ref k)] [] (h.sw k (zu (zu F 5 (Int32.ofNat (fl (vlS T s) (rn (isD T) d p - p) p v))) 3 (Int32.ofNat (rn (isD T) d p)))) := by
  have H0 := H
  obtain ⟨k1, r0, k2, hk, hn, hT⟩ := H
  have h201 : (201 : Nat) ≠ k := Ne.symm hk
  intro d
  induction d with
  | zero =>
    intro p v F hp hsp f1 f2 f3 f5
    have e : Int32.ofNat (n) ≤ Int32.ofNat (p) := by rw [i32_le (by omega) (by omega)]; omega
    have z : zu (zu F 5 (Int32.ofNat (fl (vlS T s) (rn (isD T) 0 p - p) p v))) 3 (Int32.ofNat (rn (isD T) 0 p)) = F := by
      have e0 : rn (isD T) 0 p = p := rfl
      rw [e0, Nat.sub_self]
      show zu (zu F 5 (Int32.ofNat v)) 3 (Int32.ofNat p) = F
      rw [zu_id f5, zu_id f3]
    rw [z, D_326_138]
    simp -implicitDefEqProofs only [k_326_0, k_326_38, k_326_51, D_326_103, k_326_103, D_326_133, k_326_133, D_326_134, k_326_134, k_326_138, D_326_215, k_326_215, k_326_228, D_326_258, k_326_258, D_326_259, k_326_259, D_326_265, k_326_265, D_326_284, k_326_284, D_326_303, k_326_303, D_326_304, k_326_304, D_326_317, k_326_317, R_326, v_aload_n, g_getfield, sv_i, rf_s, g_getfieldS, g_icmp_ge, sv_a, v_baload, inB_0, inB_1, g_bipush, g_icmp_ne, g_dup_i, g_dup_r, g_iconst, g_iadd, g_put_i, g_goto, g_icmp_lt, g_icmp_gt, g_icmp_le, g_isub, g_return, g_imul, entL, getL, setL, kL_i, kL_r, isI_s, isR_s, isJ_s, gV_s, iV_i, cs0, cs1, cs2, cs3, cs4, dn_nil, kd_si, kd_sl, kd_sw, mr_si, mr_sl, mr_sw, ml_si, ml_sw, mi_sl, k1, r0, k2, mi_sw, f1, f3, ↓if_pos e, if_pos e]
  | succ d ih =>
    intro p v F hp hsp f1 f2 f3 f5
    have e : ¬ Int32.ofNat (n) ≤ Int32.ofNat (p) := by rw [i32_le (by omega) (by omega)]; omega
    have s1 : Int32.ofNat (p) + 1 = Int32.ofNat (p + 1) := i32_add (b := 1)
    have b_1 : inb (Int32.ofNat (p)) 1500 = true := inb_nat (by omega) (by decide)
    have n_1 : (Int32.ofNat (p)).toNatClampNeg = p := i32_nat (by omega)
    obtain ⟨t1, t2⟩ := hT p (by omega)
    obtain ⟨-, -, -, sl, sg, -, s8⟩ := sb_ok t1
    by_cases c : 48 ≤ T p ∧ T p ≤ 57
    · have c2 : ¬ sb8 (T p) < 48 := fun q => by have := sl.mp q; omega
      have c3 : ¬ 57 < sb8 (T p) := fun q => by have := sg.mp q; omega
      have s8' := s8 (by omega)
      have z : rn (isD T) (d + 1) p = rn (isD T) d (p + 1) := if_pos (decide_eq_true c)
      have hle := (rn_le (q := isD T) d (p + 1)).1
      have zf : fl (vlS T s) (rn (isD T) d (p + 1) - p) p v = fl (vlS T s) (rn (isD T) d (p + 1) - (p + 1)) (p + 1) (vlS T s p v) := by
        rw [show rn (isD T) d (p + 1) - p = (rn (isD T) d (p + 1) - (p + 1)) + 1 by omega]; rfl
      have sub1 : Int32.ofNat p - Int32.ofNat s = Int32.ofNat (p - s) := i32_sub hsp
      have r := ih (p + 1) (vlS T s p v) (zu (zu F 5 (Int32.ofNat (vlS T s p v))) 3 (Int32.ofNat (p + 1))) (by omega) (by omega) (by rw [zu_o (by decide), zu_o (by decide), f1]) (by rw [zu_o (by decide), zu_o (by decide), f2]) zu_same (by rw [zu_o (by decide), zu_same])
      have zc : ∀ a b c d' : Int32, zu (zu (zu (zu F 5 a) 3 b) 5 c) 3 d' = zu (zu F 5 c) 3 d' := fun a b c d' => by
        funext j
        unfold zu
        split
        · rfl
        · split <;> rfl
      rw [zc] at r
      rw [z, zf, ← r, D_326_138]
      unfold vlS
      by_cases c6 : p - s < 6
      · have l6 : ¬ (6 : Int32) ≤ Int32.ofNat (p - s) := by
          show ¬ Int32.ofNat 6 ≤ Int32.ofNat (p - s)
          rw [i32_le (by omega) (by omega)]; omega
        have vv : Int32.ofNat v * 10 + Int32.ofNat (T p) - 48 = Int32.ofNat (v * 10 + (T p - 48)) := by
          have e1 : Int32.ofNat v * 10 = Int32.ofNat (v * 10) := i32_mul (b := 10)
          rw [e1, i32_add]
          have e2 : Int32.ofNat (v * 10 + T p) - 48 = Int32.ofNat (v * 10 + T p - 48) := i32_sub (b := 48) (by omega)
          rw [e2]
          congr 1; omega
        have c2' := c2
        have c3' := c3
        rw [s8'] at c2' c3'
        rw [if_pos c6]
        simp -implicitDefEqProofs only [k_326_0, k_326_38, k_326_51, D_326_103, k_326_103, D_326_133, k_326_133, D_326_134, k_326_134, k_326_138, D_326_215, k_326_215, k_326_228, D_326_258, k_326_258, D_326_259, k_326_259, D_326_265, k_326_265, D_326_284, k_326_284, D_326_303, k_326_303, D_326_304, k_326_304, D_326_317, k_326_317, R_326, v_aload_n, g_getfield, sv_i, rf_s, g_getfieldS, g_icmp_ge, sv_a, v_baload, inB_0, inB_1, g_bipush, g_icmp_ne, g_dup_i, g_dup_r, g_iconst, g_iadd, g_put_i, g_goto, g_icmp_lt, g_icmp_gt, g_icmp_le, g_isub, g_return, g_imul, entL, getL, setL, kL_i, kL_r, isI_s, isR_s, isJ_s, gV_s, iV_i, cs0, cs1, cs2, cs3, cs4, dn_nil, kd_si, kd_sl, kd_sw, mr_si, mr_sl, mr_sw, ml_si, ml_sw, mi_sl, k1, r0, k2, mi_sw, mi_swo h201, f1, f2, f3, f5, ↓if_neg e, if_neg e, b_1, n_1, t2, ↓if_neg c2', if_neg c2', ↓if_neg c3', if_neg c3', sub1, ↓if_neg l6, if_neg l6, s8', vv, si_sw (a := k), sw_sw, zu_o (show (3 : Nat) ≠ 5 by decide), s1]
      · have l6 : (6 : Int32) ≤ Int32.ofNat (p - s) := by
          show Int32.ofNat 6 ≤ Int32.ofNat (p - s)
          rw [i32_le (by omega) (by omega)]; omega
        rw [if_neg c6, zu_id f5]
        simp -implicitDefEqProofs only [k_326_0, k_326_38, k_326_51, D_326_103, k_326_103, D_326_133, k_326_133, D_326_134, k_326_134, k_326_138, D_326_215, k_326_215, k_326_228, D_326_258, k_326_258, D_326_259, k_326_259, D_326_265, k_326_265, D_326_284, k_326_284, D_326_303, k_326_303, D_326_304, k_326_304, D_326_317, k_326_317, R_326, v_aload_n, g_getfield, sv_i, rf_s, g_getfieldS, g_icmp_ge, sv_a, v_baload, inB_0, inB_1, g_bipush, g_icmp_ne, g_dup_i, g_dup_r, g_iconst, g_iadd, g_put_i, g_goto, g_icmp_lt, g_icmp_gt, g_icmp_le, g_isub, g_return, g_imul, entL, getL, setL, kL_i, kL_r, isI_s, isR_s, isJ_s, gV_s, iV_i, cs0, cs1, cs2, cs3, cs4, dn_nil, kd_si, kd_sl, kd_sw, mr_si, mr_sl, mr_sw, ml_si, ml_sw, mi_sl, k1, r0, k2, mi_sw, mi_swo h201, f1, f2, f3, f5, ↓if_neg e, if_neg e, b_1, n_1, t2, ↓if_neg c2, if_neg c2, ↓if_neg c3, if_neg c3, sub1, ↓if_pos l6, if_pos l6, si_sw (a := k), sw_sw, s1]
    · have z : rn (isD T) (d + 1) p = p := if_neg (by unfold isD; rw [decide_eq_false c]; decide)
      have z2 : zu (zu F 5 (Int32.ofNat (fl (vlS T s) (p - p) p v))) 3 (Int32.ofNat p) = F := by
        rw [Nat.sub_self]
        show zu (zu F 5 (Int32.ofNat v)) 3 (Int32.ofNat p) = F
        rw [zu_id f5, zu_id f3]
      rw [z, z2, D_326_138]
      by_cases c2 : sb8 (T p) < 48
      · simp -implicitDefEqProofs only [k_326_0, k_326_38, k_326_51, D_326_103, k_326_103, D_326_133, k_326_133, D_326_134, k_326_134, k_326_138, D_326_215, k_326_215, k_326_228, D_326_258, k_326_258, D_326_259, k_326_259, D_326_265, k_326_265, D_326_284, k_326_284, D_326_303, k_326_303, D_326_304, k_326_304, D_326_317, k_326_317, R_326, v_aload_n, g_getfield, sv_i, rf_s, g_getfieldS, g_icmp_ge, sv_a, v_baload, inB_0, inB_1, g_bipush, g_icmp_ne, g_dup_i, g_dup_r, g_iconst, g_iadd, g_put_i, g_goto, g_icmp_lt, g_icmp_gt, g_icmp_le, g_isub, g_return, g_imul, entL, getL, setL, kL_i, kL_r, isI_s, isR_s, isJ_s, gV_s, iV_i, cs0, cs1, cs2, cs3, cs4, dn_nil, kd_si, kd_sl, kd_sw, mr_si, mr_sl, mr_sw, ml_si, ml_sw, mi_sl, k1, r0, k2, mi_sw, mi_swo h201, f1, f3, ↓if_neg e, if_neg e, b_1, n_1, t2, ↓if_pos c2, if_pos c2]
      · have c3 : 57 < sb8 (T p) := sg.mpr (by
          have : ¬ (T p < 48 ∨ 128 ≤ T p) := fun q => c2 (sl.mpr q)
          omega)
        simp -implicitDefEqProofs only [k_326_0, k_326_38, k_326_51, D_326_103, k_326_103, D_326_133, k_326_133, D_326_134, k_326_134, k_326_138, D_326_215, k_326_215, k_326_228, D_326_258, k_326_258, D_326_259, k_326_259, D_326_265, k_326_265, D_326_284, k_326_284, D_326_303, k_326_303, D_326_304, k_326_304, D_326_317, k_326_317, R_326, v_aload_n, g_getfield, sv_i, rf_s, g_getfieldS, g_icmp_ge, sv_a, v_baload, inB_0, inB_1, g_bipush, g_icmp_ne, g_dup_i, g_dup_r, g_iconst, g_iadd, g_put_i, g_goto, g_icmp_lt, g_icmp_gt, g_icmp_le, g_isub, g_return, g_imul, entL, getL, setL, kL_i, kL_r, isI_s, isR_s, isJ_s, gV_s, iV_i, cs0, cs1, cs2, cs3, cs4, dn_nil, kd_si, kd_sl, kd_sw, mr_si, mr_sl, mr_sw, ml_si, ml_sw, mi_sl, k1, r0, k2, mi_sw, mi_swo h201, f1, f3, ↓if_neg e, if_neg e, b_1, n_1, t2, ↓if_neg c2, if_neg c2, ↓if_pos c3, if_pos c3]
theorem m_326 (H : TKO h k n T) {p : Nat} (hp : p ≤ n) (f1 : h.mi k 1 = Int32.ofNat n) (f3 : h.mi k 3 = Int32.ofNat p) : ∃ F, dM PG 326 [.ref k] h = some (.inl none, h.sw k F) ∧ TK F n (tok T n p) := by
  have H0 := H
  obtain ⟨k1, r0, k2, hk, hn, hT⟩ := H
  have h201 : (201 : Nat) ≠ k := Ne.symm hk
  have ea := l_326a H0 (n - p) p (h.mi k) (by omega) f1 f3
  rw [sw_id] at ea
  have hs := rn_le (q := isB T) (n - p) p
  unfold tok
  generalize rn (isB T) (n - p) p = s at ea hs
  have hsn : s ≤ n := by omega
  have eb := l_326b H0 (n - s) s (zu (zu (zu (h.mi k) 3 (Int32.ofNat s)) 2 (Int32.ofNat s)) 5 0) (by omega) (by rw [zu_o (by decide), zu_o (by decide), zu_o (by decide), f1]) (by rw [zu_o (by decide), zu_o (by decide), zu_same])
  have e38 : dB PG 326 38 [some (.ref k)] [] (h.sw k (zu (h.mi k) 3 (Int32.ofNat s))) = dB PG 326 51 [some (.ref k)] [] (h.sw k (zu (zu (zu (h.mi k) 3 (Int32.ofNat s)) 2 (Int32.ofNat s)) 5 0)) := by
    rw [D_326_38]
    simp -implicitDefEqProofs only [k_326_0, k_326_38, k_326_51, D_326_103, k_326_103, D_326_133, k_326_133, D_326_134, k_326_134, k_326_138, D_326_215, k_326_215, k_326_228, D_326_258, k_326_258, D_326_259, k_326_259, D_326_265, k_326_265, D_326_284, k_326_284, D_326_303, k_326_303, D_326_304, k_326_304, D_326_317, k_326_317, R_326, v_aload_n, g_getfield, sv_i, rf_s, g_getfieldS, g_icmp_ge, sv_a, v_baload, inB_0, inB_1, g_bipush, g_icmp_ne, g_dup_i, g_dup_r, g_iconst, g_iadd, g_put_i, g_goto, g_icmp_lt, g_icmp_gt, g_icmp_le, g_isub, g_return, g_imul, entL, getL, setL, kL_i, kL_r, isI_s, isR_s, isJ_s, gV_s, iV_i, cs0, cs1, cs2, cs3, cs4, dn_nil, kd_si, kd_sl, kd_sw, mr_si, mr_sl, mr_sw, ml_si, ml_sw, mi_sl, k1, mi_sw, zu_same, si_sw (a := k), sw_sw]
  have hl := rn_le (q := isL T) (n - s) s
  have hd := rn_le (q := isD T) (n - s) s
  have pre : dM PG 326 [.ref k] h = dB PG 326 103 [some (.ref k)] [] (h.sw k (zu (zu (zu (zu (h.mi k) 3 (Int32.ofNat s)) 2 (Int32.ofNat s)) 5 0) 3 (Int32.ofNat (rn (isL T) (n - s) s)))) := by
    rw [dM_of (Nat.le_of_ble_eq_true rfl)]
    exact ea.trans (e38.trans eb)
  rw [pre]
  clear pre ea eb e38
  unfold tokS
  obtain ⟨G, hG⟩ : ∃ G, G = zu (zu (zu (h.mi k) 3 (Int32.ofNat s)) 2 (Int32.ofNat s)) 5 0 := ⟨_, rfl⟩
  have g1 : G 1 = Int32.ofNat n := by rw [hG, zu_o (by decide), zu_o (by decide), zu_o (by decide), f1]
  have g2 : G 2 = Int32.ofNat s := by rw [hG, zu_o (by decide), zu_same]
  have g3 : G 3 = Int32.ofNat s := by rw [hG, zu_o (by decide), zu_o (by decide), zu_same]
  have g5 : G 5 = Int32.ofNat 0 := by rw [hG, zu_same]; rfl
  rw [← hG]
  clear hG
  by_cases c0 : n ≤ s
  · obtain rfl : s = n := by omega
    rw [if_pos c0]
    have el : rn (isL T) (s - s) s = s := by rw [Nat.sub_self]; rfl
    rw [el, zu_id g3, D_326_103]
    have ec := l_326c H0 (Nat.le_refl s) 0 s 0 G (by omega) (Nat.le_refl s) g1 g2 g3 g5
    have z : zu (zu G 5 (Int32.ofNat (fl (vlS T s) (rn (isD T) 0 s - s) s 0))) 3 (Int32.ofNat (rn (isD T) 0 s)) = G := by
      have e0 : rn (isD T) 0 s = s := rfl
      rw [e0, Nat.sub_self]
      show zu (zu G 5 (Int32.ofNat 0)) 3 (Int32.ofNat s) = G
      rw [zu_id g5, zu_id g3]
    rw [z] at ec
    have le : Int32.ofNat (s) ≤ Int32.ofNat (s) := by rw [i32_le (by omega) (by omega)]; omega
    have nlt : ¬ Int32.ofNat (s) < Int32.ofNat (s) := by rw [i32_lt (by omega) (by omega)]; omega
    refine ⟨zu G 4 0, ?_, ⟨?_, ?_, ?_, ?_, fun q => by cases q⟩⟩
    · simp -implicitDefEqProofs only [k_326_0, k_326_38, k_326_51, k_326_103, D_326_133, k_326_133, D_326_134, k_326_134, k_326_138, D_326_215, k_326_215, k_326_228, D_326_258, k_326_258, D_326_259, k_326_259, D_326_265, k_326_265, D_326_284, k_326_284, D_326_303, k_326_303, D_326_304, k_326_304, D_326_317, k_326_317, R_326, v_aload_n, g_getfield, sv_i, rf_s, g_getfieldS, g_icmp_ge, sv_a, v_baload, inB_0, inB_1, g_bipush, g_icmp_ne, g_dup_i, g_dup_r, g_iconst, g_iadd, g_put_i, g_goto, g_icmp_lt, g_icmp_gt, g_icmp_le, g_isub, g_return, g_imul, entL, getL, setL, kL_i, kL_r, isI_s, isR_s, isJ_s, gV_s, iV_i, cs0, cs1, cs2, cs3, cs4, dn_nil, kd_si, kd_sl, kd_sw, mr_si, mr_sl, mr_sw, ml_si, ml_sw, mi_sl, k1, mi_sw, g2, g3, ↓if_pos le, if_pos le, ec]
      rw [D_326_228]
      simp -implicitDefEqProofs only [k_326_0, k_326_38, k_326_51, D_326_103, k_326_103, D_326_133, k_326_133, D_326_134, k_326_134, k_326_138, D_326_215, k_326_215, k_326_228, D_326_258, k_326_258, D_326_259, k_326_259, D_326_265, k_326_265, D_326_284, k_326_284, D_326_303, k_326_303, D_326_304, k_326_304, D_326_317, k_326_317, R_326, v_aload_n, g_getfield, sv_i, rf_s, g_getfieldS, g_icmp_ge, sv_a, v_baload, inB_0, inB_1, g_bipush, g_icmp_ne, g_dup_i, g_dup_r, g_iconst, g_iadd, g_put_i, g_goto, g_icmp_lt, g_icmp_gt, g_icmp_le, g_isub, g_return, g_imul, entL, getL, setL, kL_i, kL_r, isI_s, isR_s, isJ_s, gV_s, iV_i, cs0, cs1, cs2, cs3, cs4, dn_nil, kd_si, kd_sl, kd_sw, mr_si, mr_sl, mr_sw, ml_si, ml_sw, mi_sl, k1, mi_sw, g1, g2, g3, ↓if_pos le, if_pos le, ↓if_neg nlt, if_neg nlt, si_sw (a := k), sw_sw]
    · rw [zu_o (by decide), g1]
    · rw [zu_o (by decide), g2]
    · rw [zu_o (by decide), g3]
    · rw [zu_same]; rfl
  · rw [if_neg c0]
    obtain ⟨t1, t2⟩ := hT s (by omega)
    obtain ⟨-, sl, sg, sl2, sg2, s59, s8⟩ := sb_ok t1
    cases cl : isL T s with
    | true =>
      rw [if_pos rfl]
      generalize he : rn (isL T) (n - s) s = e at hl
      have hse : s < e := by
        obtain ⟨d, hd'⟩ : ∃ d, n - s = d + 1 := ⟨n - s - 1, by omega⟩
        rw [hd'] at he
        have : rn (isL T) (d + 1) s = rn (isL T) d (s + 1) := if_pos cl
        rw [this] at he
        have := (rn_le (q := isL T) d (s + 1)).1
        omega
      have ne : ¬ Int32.ofNat e ≤ Int32.ofNat s := by rw [i32_le (by omega) (by omega)]; omega
      have sub1 : Int32.ofNat e - Int32.ofNat s = Int32.ofNat (e - s) := i32_sub (by omega)
      have w2 : zu G 3 (Int32.ofNat e) 2 = Int32.ofNat s := by rw [zu_o (by decide), g2]
      have w3 : zu G 3 (Int32.ofNat e) 3 = Int32.ofNat e := zu_same
      by_cases c9 : 9 < e - s
      · have l9 : ¬ Int32.ofNat (e - s) ≤ 9 := by
          show ¬ Int32.ofNat (e - s) ≤ Int32.ofNat 9
          rw [i32_le (by omega) (by omega)]; omega
        rw [if_pos c9]
        refine ⟨zu (zu G 3 (Int32.ofNat e)) 4 1, ?_, ⟨?_, ?_, ?_, ?_, fun q => by cases q⟩⟩
        · rw [D_326_103]
          simp -implicitDefEqProofs only [k_326_0, k_326_38, k_326_51, k_326_103, D_326_133, k_326_133, D_326_134, k_326_134, k_326_138, D_326_215, k_326_215, k_326_228, D_326_258, k_326_258, D_326_259, k_326_259, D_326_265, k_326_265, D_326_284, k_326_284, D_326_303, k_326_303, D_326_304, k_326_304, D_326_317, k_326_317, R_326, v_aload_n, g_getfield, sv_i, rf_s, g_getfieldS, g_icmp_ge, sv_a, v_baload, inB_0, inB_1, g_bipush, g_icmp_ne, g_dup_i, g_dup_r, g_iconst, g_iadd, g_put_i, g_goto, g_icmp_lt, g_icmp_gt, g_icmp_le, g_isub, g_return, g_imul, entL, getL, setL, kL_i, kL_r, isI_s, isR_s, isJ_s, gV_s, iV_i, cs0, cs1, cs2, cs3, cs4, dn_nil, kd_si, kd_sl, kd_sw, mr_si, mr_sl, mr_sw, ml_si, ml_sw, mi_sl, k1, mi_sw, w2, w3, ↓if_neg ne, if_neg ne, sub1, ↓if_neg l9, if_neg l9, si_sw (a := k), sw_sw]
        · rw [zu_o (by decide), zu_o (by decide), g1]
        · rw [zu_o (by decide), zu_o (by decide), g2]
        · rw [zu_o (by decide), zu_same]
        · rw [zu_same]; rfl
      · have l9 : Int32.ofNat (e - s) ≤ 9 := by
          show Int32.ofNat (e - s) ≤ Int32.ofNat 9
          rw [i32_le (by omega) (by omega)]; omega
        rw [if_neg c9]
        refine ⟨zu (zu G 3 (Int32.ofNat e)) 4 2, ?_, ⟨?_, ?_, ?_, ?_, fun q => by cases q⟩⟩
        · rw [D_326_103]
          simp -implicitDefEqProofs only [k_326_0, k_326_38, k_326_51, k_326_103, D_326_133, k_326_133, D_326_134, k_326_134, k_326_138, D_326_215, k_326_215, k_326_228, D_326_258, k_326_258, D_326_259, k_326_259, D_326_265, k_326_265, D_326_284, k_326_284, D_326_303, k_326_303, D_326_304, k_326_304, D_326_317, k_326_317, R_326, v_aload_n, g_getfield, sv_i, rf_s, g_getfieldS, g_icmp_ge, sv_a, v_baload, inB_0, inB_1, g_bipush, g_icmp_ne, g_dup_i, g_dup_r, g_iconst, g_iadd, g_put_i, g_goto, g_icmp_lt, g_icmp_gt, g_icmp_le, g_isub, g_return, g_imul, entL, getL, setL, kL_i, kL_r, isI_s, isR_s, isJ_s, gV_s, iV_i, cs0, cs1, cs2, cs3, cs4, dn_nil, kd_si, kd_sl, kd_sw, mr_si, mr_sl, mr_sw, ml_si, ml_sw, mi_sl, k1, mi_sw, w2, w3, ↓if_neg ne, if_neg ne, sub1, ↓if_pos l9, if_pos l9, si_sw (a := k), sw_sw]
        · rw [zu_o (by decide), zu_o (by decide), g1]
        · rw [zu_o (by decide), zu_o (by decide), g2]
        · rw [zu_o (by decide), zu_same]
        · rw [zu_same]; rfl
    | false =>
      rw [if_neg Bool.false_ne_true]
      have el : rn (isL T) (n - s) s = s := by
        obtain ⟨d, hd'⟩ : ∃ d, n - s = d + 1 := ⟨n - s - 1, by omega⟩
        rw [hd']
        exact if_neg (by rw [cl]; exact Bool.false_ne_true)
      rw [el, zu_id g3]
      have ec := l_326c H0 hsn (n - s) s 0 G (by omega) (Nat.le_refl s) g1 g2 g3 g5
      have le : Int32.ofNat (s) ≤ Int32.ofNat (s) := by rw [i32_le (by omega) (by omega)]; omega
      have e103 : dB PG 326 103 [some (.ref k)] [] (h.sw k G) = dB PG 326 138 [some (.ref k)] [] (h.sw k G) := by
        rw [D_326_103]
        simp -implicitDefEqProofs only [k_326_0, k_326_38, k_326_51, k_326_103, D_326_133, k_326_133, D_326_134, k_326_134, k_326_138, D_326_215, k_326_215, k_326_228, D_326_258, k_326_258, D_326_259, k_326_259, D_326_265, k_326_265, D_326_284, k_326_284, D_326_303, k_326_303, D_326_304, k_326_304, D_326_317, k_326_317, R_326, v_aload_n, g_getfield, sv_i, rf_s, g_getfieldS, g_icmp_ge, sv_a, v_baload, inB_0, inB_1, g_bipush, g_icmp_ne, g_dup_i, g_dup_r, g_iconst, g_iadd, g_put_i, g_goto, g_icmp_lt, g_icmp_gt, g_icmp_le, g_isub, g_return, g_imul, entL, getL, setL, kL_i, kL_r, isI_s, isR_s, isJ_s, gV_s, iV_i, cs0, cs1, cs2, cs3, cs4, dn_nil, kd_si, kd_sl, kd_sw, mr_si, mr_sl, mr_sw, ml_si, ml_sw, mi_sl, k1, mi_sw, g2, g3, ↓if_pos le, if_pos le]
      rw [e103, ec]
      cases cd : isD T s with
      | true =>
        rw [if_pos rfl]
        generalize hvv : fl (vlS T s) (rn (isD T) (n - s) s - s) s 0 = vv
        generalize he : rn (isD T) (n - s) s = e at hd
        have hse : s < e := by
          obtain ⟨d, hd'⟩ : ∃ d, n - s = d + 1 := ⟨n - s - 1, by omega⟩
          rw [hd'] at he
          have : rn (isD T) (d + 1) s = rn (isD T) d (s + 1) := if_pos cd
          rw [this] at he
          have := (rn_le (q := isD T) d (s + 1)).1
          omega
        have ne : ¬ Int32.ofNat e ≤ Int32.ofNat s := by rw [i32_le (by omega) (by omega)]; omega
        have sub1 : Int32.ofNat e - Int32.ofNat s = Int32.ofNat (e - s) := i32_sub (by omega)
        have w2 : zu (zu G 5 (Int32.ofNat vv)) 3 (Int32.ofNat e) 2 = Int32.ofNat s := by rw [zu_o (by decide), zu_o (by decide), g2]
        have w3 : zu (zu G 5 (Int32.ofNat vv)) 3 (Int32.ofNat e) 3 = Int32.ofNat e := zu_same
        by_cases c6 : 6 < e - s
        · have l6 : ¬ Int32.ofNat (e - s) ≤ 6 := by
            show ¬ Int32.ofNat (e - s) ≤ Int32.ofNat 6
            rw [i32_le (by omega) (by omega)]; omega
          rw [if_pos c6]
          refine ⟨zu (zu (zu G 5 (Int32.ofNat vv)) 3 (Int32.ofNat e)) 4 1, ?_, ⟨?_, ?_, ?_, ?_, fun q => by cases q⟩⟩
          · rw [D_326_228]
            simp -implicitDefEqProofs only [k_326_0, k_326_38, k_326_51, k_326_103, D_326_133, k_326_133, D_326_134, k_326_134, k_326_138, D_326_215, k_326_215, k_326_228, D_326_258, k_326_258, D_326_259, k_326_259, D_326_265, k_326_265, D_326_284, k_326_284, D_326_303, k_326_303, D_326_304, k_326_304, D_326_317, k_326_317, R_326, v_aload_n, g_getfield, sv_i, rf_s, g_getfieldS, g_icmp_ge, sv_a, v_baload, inB_0, inB_1, g_bipush, g_icmp_ne, g_dup_i, g_dup_r, g_iconst, g_iadd, g_put_i, g_goto, g_icmp_lt, g_icmp_gt, g_icmp_le, g_isub, g_return, g_imul, entL, getL, setL, kL_i, kL_r, isI_s, isR_s, isJ_s, gV_s, iV_i, cs0, cs1, cs2, cs3, cs4, dn_nil, kd_si, kd_sl, kd_sw, mr_si, mr_sl, mr_sw, ml_si, ml_sw, mi_sl, k1, mi_sw, w2, w3, ↓if_neg ne, if_neg ne, sub1, ↓if_neg l6, if_neg l6, si_sw (a := k), sw_sw]
          · rw [zu_o (by decide), zu_o (by decide), zu_o (by decide), g1]
          · rw [zu_o (by decide), w2]
          · rw [zu_o (by decide), w3]
          · rw [zu_same]; rfl
        · have l6 : Int32.ofNat (e - s) ≤ 6 := by
            show Int32.ofNat (e - s) ≤ Int32.ofNat 6
            rw [i32_le (by omega) (by omega)]; omega
          rw [if_neg c6]
          refine ⟨zu (zu (zu G 5 (Int32.ofNat vv)) 3 (Int32.ofNat e)) 4 3, ?_, ⟨?_, ?_, ?_, ?_, fun q => ?_⟩⟩
          · rw [D_326_228]
            simp -implicitDefEqProofs only [k_326_0, k_326_38, k_326_51, k_326_103, D_326_133, k_326_133, D_326_134, k_326_134, k_326_138, D_326_215, k_326_215, k_326_228, D_326_258, k_326_258, D_326_259, k_326_259, D_326_265, k_326_265, D_326_284, k_326_284, D_326_303, k_326_303, D_326_304, k_326_304, D_326_317, k_326_317, R_326, v_aload_n, g_getfield, sv_i, rf_s, g_getfieldS, g_icmp_ge, sv_a, v_baload, inB_0, inB_1, g_bipush, g_icmp_ne, g_dup_i, g_dup_r, g_iconst, g_iadd, g_put_i, g_goto, g_icmp_lt, g_icmp_gt, g_icmp_le, g_isub, g_return, g_imul, entL, getL, setL, kL_i, kL_r, isI_s, isR_s, isJ_s, gV_s, iV_i, cs0, cs1, cs2, cs3, cs4, dn_nil, kd_si, kd_sl, kd_sw, mr_si, mr_sl, mr_sw, ml_si, ml_sw, mi_sl, k1, mi_sw, w2, w3, ↓if_neg ne, if_neg ne, sub1, ↓if_pos l6, if_pos l6, si_sw (a := k), sw_sw]
          · rw [zu_o (by decide), zu_o (by decide), zu_o (by decide), g1]
          · rw [zu_o (by decide), w2]
          · rw [zu_o (by decide), w3]
          · rw [zu_same]; rfl
          · rw [zu_o (by decide), zu_o (by decide), zu_same]
      | false =>
        rw [if_neg Bool.false_ne_true]
        have ed : rn (isD T) (n - s) s = s := by
          obtain ⟨d, hd'⟩ : ∃ d, n - s = d + 1 := ⟨n - s - 1, by omega⟩
          rw [hd']
          exact if_neg (by rw [cd]; exact Bool.false_ne_true)
        have z : zu (zu G 5 (Int32.ofNat (fl (vlS T s) (rn (isD T) (n - s) s - s) s 0))) 3 (Int32.ofNat (rn (isD T) (n - s) s)) = G := by
          rw [ed, Nat.sub_self]
          show zu (zu G 5 (Int32.ofNat 0)) 3 (Int32.ofNat s) = G
          rw [zu_id g5, zu_id g3]
        rw [z]
        have lt : Int32.ofNat (s) < Int32.ofNat (n) := by rw [i32_lt (by omega) (by omega)]; omega
        have s1 : Int32.ofNat (s) + 1 = Int32.ofNat (s + 1) := i32_add (b := 1)
        have b_1 : inb (Int32.ofNat (s)) 1500 = true := inb_nat (by omega) (by decide)
        have n_1 : (Int32.ofNat (s)).toNatClampNeg = s := i32_nat (by omega)
        have w3 : ∀ x, zu G 4 x 3 = Int32.ofNat s := fun x => by rw [zu_o (by decide), g3]
        by_cases c59 : T s = 59
        · have q59 : sb8 (T s) = 59 := s59.mpr c59
          rw [if_pos c59]
          refine ⟨zu (zu G 4 4) 3 (Int32.ofNat (s + 1)), ?_, ⟨?_, ?_, ?_, ?_, fun q => by cases q⟩⟩
          · rw [D_326_228]
            simp -implicitDefEqProofs only [k_326_0, k_326_38, k_326_51, k_326_103, D_326_133, k_326_133, D_326_134, k_326_134, k_326_138, D_326_215, k_326_215, k_326_228, D_326_258, k_326_258, D_326_259, k_326_259, D_326_265, k_326_265, D_326_284, k_326_284, D_326_303, k_326_303, D_326_304, k_326_304, D_326_317, k_326_317, R_326, v_aload_n, g_getfield, sv_i, rf_s, g_getfieldS, g_icmp_ge, sv_a, v_baload, inB_0, inB_1, g_bipush, g_icmp_ne, g_dup_i, g_dup_r, g_iconst, g_iadd, g_put_i, g_goto, g_icmp_lt, g_icmp_gt, g_icmp_le, g_isub, g_return, g_imul, entL, getL, setL, kL_i, kL_r, isI_s, isR_s, isJ_s, gV_s, iV_i, cs0, cs1, cs2, cs3, cs4, dn_nil, kd_si, kd_sl, kd_sw, mr_si, mr_sl, mr_sw, ml_si, ml_sw, mi_sl, k1, r0, k2, mi_sw, mi_swo h201, g1, g2, g3, ↓if_pos le, if_pos le, ↓if_pos lt, if_pos lt, b_1, n_1, t2, ↓if_pos q59, if_pos q59, si_sw (a := k), sw_sw, w3, s1]
          · rw [zu_o (by decide), zu_o (by decide), g1]
          · rw [zu_o (by decide), zu_o (by decide), g2]
          · rw [zu_same]
          · rw [zu_o (by decide), zu_same]; rfl
        · have q59 : ¬ sb8 (T s) = 59 := fun q => c59 (s59.mp q)
          rw [if_neg c59]
          refine ⟨zu (zu G 4 1) 3 (Int32.ofNat (s + 1)), ?_, ⟨?_, ?_, ?_, ?_, fun q => by cases q⟩⟩
          · rw [D_326_228]
            simp -implicitDefEqProofs only [k_326_0, k_326_38, k_326_51, k_326_103, D_326_133, k_326_133, D_326_134, k_326_134, k_326_138, D_326_215, k_326_215, k_326_228, D_326_258, k_326_258, D_326_259, k_326_259, D_326_265, k_326_265, D_326_284, k_326_284, D_326_303, k_326_303, D_326_304, k_326_304, D_326_317, k_326_317, R_326, v_aload_n, g_getfield, sv_i, rf_s, g_getfieldS, g_icmp_ge, sv_a, v_baload, inB_0, inB_1, g_bipush, g_icmp_ne, g_dup_i, g_dup_r, g_iconst, g_iadd, g_put_i, g_goto, g_icmp_lt, g_icmp_gt, g_icmp_le, g_isub, g_return, g_imul, entL, getL, setL, kL_i, kL_r, isI_s, isR_s, isJ_s, gV_s, iV_i, cs0, cs1, cs2, cs3, cs4, dn_nil, kd_si, kd_sl, kd_sw, mr_si, mr_sl, mr_sw, ml_si, ml_sw, mi_sl, k1, r0, k2, mi_sw, mi_swo h201, g1, g2, g3, ↓if_pos le, if_pos le, ↓if_pos lt, if_pos lt, b_1, n_1, t2, ↓if_neg q59, if_neg q59, si_sw (a := k), sw_sw, w3, s1]
          · rw [zu_o (by decide), zu_o (by decide), g1]
          · rw [zu_o (by decide), zu_o (by decide), g2]
          · rw [zu_same]
          · rw [zu_o (by decide), zu_same]; rfl
end ST326
