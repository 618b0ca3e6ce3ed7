-- ===== the model: sets of the pool =====
theorem i32_and {a b : Nat} : Int32.ofNat a &&& Int32.ofNat b = Int32.ofNat (a &&& b) := by
  apply Int32.toBitVec_inj.mp
  rw [Int32.toBitVec_and]
  show BitVec.ofNat 32 a &&& BitVec.ofNat 32 b = BitVec.ofNat 32 (a &&& b)
  exact BitVec.ofNat_and.symm
def mbG : Nat → Nat → Nat
  | 0, _ => 0
  | f + 1, s => if s = 0 then 0 else 1 + mbG f (s &&& (s - 1))
theorem R_267 : PG.2.1 267 = (some .int) := rfl
theorem l_267 : ∀ (f s n : Nat) (v : Int32) (h : Mm), s ≤ f → s < 2147483648 → dB PG 267 4 (some (.int v) :: some (.int (Int32.ofNat n)) :: some (.int (Int32.ofNat s)) :: []) [] h = some (.inl (some (.int (Int32.ofNat (n + mbG f s)))), h) := by
  intro f
  induction f with
  | zero =>
    intro s n v h hs _
    obtain rfl : s = 0 := by omega
    have z : Int32.ofNat 0 = 0 := rfl
    rw [D_267_4]
    simp -implicitDefEqProofs only [D_267_0, k_267_0, k_267_4, D_267_20, k_267_20, R_267, g_iconst, g_istore_n, v_iload_n, g_if_eq, v_iinc, g_isub, g_iand, g_goto, g_ireturn, entL, getL, setL, kL_i, kL_r, isI_s, isR_s, isJ_s, gV_s, iV_i, cs0, cs1, cs2, cs3, cs4, dn_nil, kd_si, kd_sl, kd_sw, mr_si, mr_sl, mr_sw, ml_si, ml_sw, mi_sl, z, ↓if_true, if_true, retX_int]
    rfl
  | succ f ih =>
    intro s n v h hs hs2
    rw [D_267_4]
    unfold mbG
    by_cases c : s = 0
    · subst c
      have z : Int32.ofNat 0 = 0 := rfl
      rw [if_pos rfl, Nat.add_zero]
      simp -implicitDefEqProofs only [D_267_0, k_267_0, k_267_4, D_267_20, k_267_20, R_267, g_iconst, g_istore_n, v_iload_n, g_if_eq, v_iinc, g_isub, g_iand, g_goto, g_ireturn, entL, getL, setL, kL_i, kL_r, isI_s, isR_s, isJ_s, gV_s, iV_i, cs0, cs1, cs2, cs3, cs4, dn_nil, kd_si, kd_sl, kd_sw, mr_si, mr_sl, mr_sw, ml_si, ml_sw, mi_sl, z, ↓if_true, if_true, retX_int]
    · have z : ¬ Int32.ofNat s = 0 := fun e => c ((i32_z hs2).mp e)
      have p1 : Int32.ofNat s - 1 = Int32.ofNat (s - 1) := i32_pred (by omega)
      have h1 : s &&& (s - 1) ≤ s - 1 := Nat.and_le_right
      have s1 : Int32.ofNat (n) + 1 = Int32.ofNat (n + 1) := i32_add (b := 1)
      rw [if_neg c, show n + (1 + mbG f (s &&& (s - 1))) = (n + 1) + mbG f (s &&& (s - 1)) by omega, ← ih (s &&& (s - 1)) (n + 1) v h (by omega) (by omega)]
      simp -implicitDefEqProofs only [D_267_0, k_267_0, k_267_4, D_267_20, k_267_20, R_267, g_iconst, g_istore_n, v_iload_n, g_if_eq, v_iinc, g_isub, g_iand, g_goto, g_ireturn, entL, getL, setL, kL_i, kL_r, isI_s, isR_s, isJ_s, gV_s, iV_i, cs0, cs1, cs2, cs3, cs4, dn_nil, kd_si, kd_sl, kd_sw, mr_si, mr_sl, mr_sw, ml_si, ml_sw, mi_sl, ↓if_neg z, if_neg z, p1, i32_and, s1]
theorem m_267 {s : Nat} (hs : s ≤ 1024) {h : Mm} : dM PG 267 [.int (Int32.ofNat s)] h = some (.inl (some (.int (Int32.ofNat (mbG 1024 s)))), h) := by
  rw [dM_of (Nat.le_of_ble_eq_true rfl)]
  simp -implicitDefEqProofs only [D_267_0, k_267_0, g_iconst, g_istore_n, v_iload_n, entL, getL, setL, kL_i, kL_r, isI_s, isR_s, isJ_s, gV_s, iV_i, cs0, cs1, cs2, cs3, cs4, dn_nil, kd_si, kd_sl, kd_sw, mr_si, mr_sl, mr_sw, ml_si, ml_sw, mi_sl]
  have := l_267 1024 s 0 (Int32.ofNat s) h hs (by omega)
  rw [Nat.zero_add] at this
  exact this
def mB (x : Int32) (j : Nat) : Int32 := x >>> (Int32.ofNat j &&& 31) &&& 1
/-- the item at a place of the pool -/
def pit (S : Nat → Int32) (j : Nat) : Nat := (S (38 + j)).toNatClampNeg
def woS (S : Nat → Int32) (x y : Int32) (j : Nat) (o : Option Int32) : Option Int32 := match o with
  | none => none
  | some a => if mB x j = 0 then some a else if S (288 + pit S j) = y then some (a + S (208 + pit S j)) else none
def woV : Option Int32 → Int32
  | none => -1
  | some v => v
theorem inb_80 {i : Int32} (h : inb i 80 = true) : i = Int32.ofNat i.toNatClampNeg ∧ i.toNatClampNeg < 80 := by
  obtain ⟨h0, h1⟩ := inb_to h
  refine ⟨?_, h1⟩
  have h2 := Int32.not_lt.mp h0
  rw [Int32.le_iff_toInt_le] at h2
  have h3 : (0 : Int32).toInt = 0 := by decide
  apply Int32.toInt_inj.mp
  rw [i32_toInt (by omega)]
  have : i.toInt = (i.toInt.toNat : Int) := by omega
  exact this
theorem R_171 : PG.2.1 171 = (some .int) := rfl
theorem l_171 {pc : Nat} (hpc : pc ≤ 10) {x y : Int32} {h : Mm} (H : MO h) (h7 : h.mi 283 7 = Int32.ofNat pc) (hp : ∀ j, j < pc → inb (h.mi 283 (38 + j)) 80 = true) : ∀ (d j : Nat) (a : Int32), j + d = pc → dB PG 171 5 (some (.ref 277) :: some (.int x) :: some (.int y) :: some (.int a) :: some (.int (Int32.ofNat j)) :: []) [] h = some (.inl (some (.int (woV (fl (woS (h.mi 283) x y) d j (some a))))), h) := by
  intro d
  induction d with
  | zero =>
    intro j a hj
    obtain rfl : j = pc := by omega
    have e : Int32.ofNat (j) ≤ Int32.ofNat (j) := by rw [i32_le (by omega) (by omega)]; omega
    rw [D_171_5]
    simp -implicitDefEqProofs only [D_171_0, k_171_0, k_171_5, D_171_29, k_171_29, D_171_54, k_171_54, D_171_76, k_171_76, D_171_82, k_171_82, R_171, g_iconst, g_istore_n, g_istore, v_iload, v_aload_n, g_getfield, sv_a, rf_s, g_bipush, v_iaload, inI_0, g_icmp_ge, v_iload_n, g_ishr, g_iand, g_if_ne, g_goto, g_sipush, g_iadd, g_icmp_eq, g_ireturn, v_iinc, entL, getL, setL, kL_i, kL_r, isI_s, isR_s, isJ_s, gV_s, iV_i, cs0, cs1, cs2, cs3, cs4, dn_nil, kd_si, kd_sl, kd_sw, mr_si, mr_sl, mr_sw, ml_si, ml_sw, mi_sl, mk_277 H, mk_278 H, mk_279 H, mk_280 H, mk_281 H, mk_282 H, mk_283 H, mk_284 H, mk_285 H, mk_286 H, mk_287 H, mk_288 H, mk_289 H, mr_1 H, mr_11 H, mr_12 H, mr_13 H, mr_14 H, mr_15 H, mr_16 H, mr_17 H, mr_18 H, mr_19 H, mr_24 H, mr_25 H, in_7, ix_7, h7, ↓if_pos e, if_pos e, retX_int]
    rfl
  | succ d ih =>
    intro j a hj
    have e : ¬ Int32.ofNat (pc) ≤ Int32.ofNat (j) := by rw [i32_le (by omega) (by omega)]; omega
    have s1 : Int32.ofNat (j) + 1 = Int32.ofNat (j + 1) := i32_add (b := 1)
    have b_1 : inb (Int32.ofNat (38 + j)) 1168 = true := inb_nat (by omega) (by decide)
    have n_1 : (Int32.ofNat (38 + j)).toNatClampNeg = 38 + j := i32_nat (by omega)
    obtain ⟨q1, q2⟩ := inb_80 (hp j (by omega))
    have e1 : (288 : Int32) + h.mi 283 (38 + j) = Int32.ofNat (288 + pit (h.mi 283) j) := by
      rw [q1, la_288]; rfl
    have e2 : (208 : Int32) + h.mi 283 (38 + j) = Int32.ofNat (208 + pit (h.mi 283) j) := by
      rw [q1, la_208]; rfl
    have q3 : pit (h.mi 283) j < 80 := q2
    have b_2 : inb (Int32.ofNat (288 + pit (h.mi 283) j)) 1168 = true := inb_nat (by omega) (by decide)
    have n_2 : (Int32.ofNat (288 + pit (h.mi 283) j)).toNatClampNeg = 288 + pit (h.mi 283) j := i32_nat (by omega)
    have b_3 : inb (Int32.ofNat (208 + pit (h.mi 283) j)) 1168 = true := inb_nat (by omega) (by decide)
    have n_3 : (Int32.ofNat (208 + pit (h.mi 283) j)).toNatClampNeg = 208 + pit (h.mi 283) j := i32_nat (by omega)
    rw [D_171_5]
    have zf : fl (woS (h.mi 283) x y) (d + 1) j (some a) = fl (woS (h.mi 283) x y) d (j + 1) (woS (h.mi 283) x y j (some a)) := rfl
    rw [zf]
    by_cases c : mB x j = 0
    · have c2 : x >>> (Int32.ofNat j &&& 31) &&& 1 = 0 := c
      have z : woS (h.mi 283) x y j (some a) = some a := if_pos c
      rw [z, ← ih (j + 1) a (by omega)]
      simp -implicitDefEqProofs only [D_171_0, k_171_0, k_171_5, D_171_29, k_171_29, D_171_54, k_171_54, D_171_76, k_171_76, D_171_82, k_171_82, R_171, g_iconst, g_istore_n, g_istore, v_iload, v_aload_n, g_getfield, sv_a, rf_s, g_bipush, v_iaload, inI_0, g_icmp_ge, v_iload_n, g_ishr, g_iand, g_if_ne, g_goto, g_sipush, g_iadd, g_icmp_eq, g_ireturn, v_iinc, entL, getL, setL, kL_i, kL_r, isI_s, isR_s, isJ_s, gV_s, iV_i, cs0, cs1, cs2, cs3, cs4, dn_nil, kd_si, kd_sl, kd_sw, mr_si, mr_sl, mr_sw, ml_si, ml_sw, mi_sl, mk_277 H, mk_278 H, mk_279 H, mk_280 H, mk_281 H, mk_282 H, mk_283 H, mk_284 H, mk_285 H, mk_286 H, mk_287 H, mk_288 H, mk_289 H, mr_1 H, mr_11 H, mr_12 H, mr_13 H, mr_14 H, mr_15 H, mr_16 H, mr_17 H, mr_18 H, mr_19 H, mr_24 H, mr_25 H, in_7, ix_7, h7, ↓if_neg e, if_neg e, ↓if_pos c2, if_pos c2, s1]
    · have c2 : ¬ x >>> (Int32.ofNat j &&& 31) &&& 1 = 0 := c
      by_cases k : h.mi 283 (288 + pit (h.mi 283) j) = y
      · have z : woS (h.mi 283) x y j (some a) = some (a + h.mi 283 (208 + pit (h.mi 283) j)) := (if_neg c).trans (if_pos k)
        rw [z, ← ih (j + 1) _ (by omega)]
        simp -implicitDefEqProofs only [D_171_0, k_171_0, k_171_5, D_171_29, k_171_29, D_171_54, k_171_54, D_171_76, k_171_76, D_171_82, k_171_82, R_171, g_iconst, g_istore_n, g_istore, v_iload, v_aload_n, g_getfield, sv_a, rf_s, g_bipush, v_iaload, inI_0, g_icmp_ge, v_iload_n, g_ishr, g_iand, g_if_ne, g_goto, g_sipush, g_iadd, g_icmp_eq, g_ireturn, v_iinc, entL, getL, setL, kL_i, kL_r, isI_s, isR_s, isJ_s, gV_s, iV_i, cs0, cs1, cs2, cs3, cs4, dn_nil, kd_si, kd_sl, kd_sw, mr_si, mr_sl, mr_sw, ml_si, ml_sw, mi_sl, mk_277 H, mk_278 H, mk_279 H, mk_280 H, mk_281 H, mk_282 H, mk_283 H, mk_284 H, mk_285 H, mk_286 H, mk_287 H, mk_288 H, mk_289 H, mr_1 H, mr_11 H, mr_12 H, mr_13 H, mr_14 H, mr_15 H, mr_16 H, mr_17 H, mr_18 H, mr_19 H, mr_24 H, mr_25 H, in_7, ix_7, h7, ↓if_neg e, if_neg e, ↓if_neg c2, if_neg c2, la_38, b_1, n_1, e1, e2, b_2, n_2, b_3, n_3, ↓if_pos k, if_pos k, s1]
      · have z : woS (h.mi 283) x y j (some a) = none := (if_neg c).trans (if_neg k)
        rw [z, fl_id (fun _ => rfl)]
        simp -implicitDefEqProofs only [D_171_0, k_171_0, k_171_5, D_171_29, k_171_29, D_171_54, k_171_54, D_171_76, k_171_76, D_171_82, k_171_82, R_171, g_iconst, g_istore_n, g_istore, v_iload, v_aload_n, g_getfield, sv_a, rf_s, g_bipush, v_iaload, inI_0, g_icmp_ge, v_iload_n, g_ishr, g_iand, g_if_ne, g_goto, g_sipush, g_iadd, g_icmp_eq, g_ireturn, v_iinc, entL, getL, setL, kL_i, kL_r, isI_s, isR_s, isJ_s, gV_s, iV_i, cs0, cs1, cs2, cs3, cs4, dn_nil, kd_si, kd_sl, kd_sw, mr_si, mr_sl, mr_sw, ml_si, ml_sw, mi_sl, mk_277 H, mk_278 H, mk_279 H, mk_280 H, mk_281 H, mk_282 H, mk_283 H, mk_284 H, mk_285 H, mk_286 H, mk_287 H, mk_288 H, mk_289 H, mr_1 H, mr_11 H, mr_12 H, mr_13 H, mr_14 H, mr_15 H, mr_16 H, mr_17 H, mr_18 H, mr_19 H, mr_24 H, mr_25 H, in_7, ix_7, h7, ↓if_neg e, if_neg e, ↓if_neg c2, if_neg c2, la_38, b_1, n_1, e1, e2, b_2, n_2, ↓if_neg k, if_neg k, retX_int]
        rfl
theorem m_171 {pc : Nat} (hpc : pc ≤ 10) {x y : Int32} {h : Mm} (H : MO h) (h7 : h.mi 283 7 = Int32.ofNat pc) (hp : ∀ j, j < pc → inb (h.mi 283 (38 + j)) 80 = true) : dM PG 171 [.ref 277, .int x, .int y] h = some (.inl (some (.int (woV (fl (woS (h.mi 283) x y) pc 0 (some 0))))), h) := by
  rw [dM_of (Nat.le_of_ble_eq_true rfl)]
  simp -implicitDefEqProofs only [D_171_0, k_171_0, g_iconst, g_istore_n, g_istore, entL, getL, setL, kL_i, kL_r, isI_s, isR_s, isJ_s, gV_s, iV_i, cs0, cs1, cs2, cs3, cs4, dn_nil, kd_si, kd_sl, kd_sw, mr_si, mr_sl, mr_sw, ml_si, ml_sw, mi_sl]
  exact l_171 hpc H h7 hp pc 0 0 (by omega)
theorem R_170 : PG.2.1 170 = (some .int) := rfl
def msT (wv : Nat → Int32) (z t : Int32) (s : Nat) (a : Option Nat × Int32) : Option Nat × Int32 := if wv s = -1 then a else if 0 ≤ z + wv s - t then (match a.1 with
  | none => (some s, z + wv s - t)
  | some b => if a.2 < z + wv s - t then a else if z + wv s - t = a.2 ∧ ¬ mbG 1024 s < mbG 1024 b then a else (some s, z + wv s - t)) else a
def wvF (S : Nat → Int32) (pc k s : Nat) : Int32 := woV (fl (woS S (Int32.ofNat s) (Int32.ofNat k)) pc 0 (some 0))
theorem m_170 {pc k p : Nat} (hpc : pc ≤ 10) (hk4 : k < 4) (hp3 : p < 3) {h : Mm} (H : MO h) (h7 : h.mi 283 7 = Int32.ofNat pc) (hp : ∀ j, j < pc → inb (h.mi 283 (38 + j)) 80 = true) : dM PG 170 [.ref 277, .int (Int32.ofNat k), .int (Int32.ofNat p)] h = some (.inl (some (.int (oN (fl (msT (wvF (h.mi 283) pc k) (h.mi 283 (26 + 3 * k + p)) (h.mi 283 (10 + k))) (2 ^ pc - 1) 1 (none, 0)).1))), h) := by
  rw [dM_of (Nat.le_of_ble_eq_true rfl)]
  simp -implicitDefEqProofs only [D_170_0, k_170_0, g_iconst, g_istore_n, g_istore, entL, getL, setL, kL_i, kL_r, isI_s, isR_s, isJ_s, gV_s, iV_i, cs0, cs1, cs2, cs3, cs4, dn_nil, kd_si, kd_sl, kd_sw, mr_si, mr_sl, mr_sw, ml_si, ml_sw, mi_sl]
  have hw : ∀ s, dM PG 171 [.ref 277, .int (Int32.ofNat s), .int (Int32.ofNat k)] h = some (.inl (some (.int (wvF (h.mi 283) pc k s))), h) := fun s => m_171 hpc H h7 hp
  generalize wvF (h.mi 283) pc k = wv at hw ⊢
  have t2 : 2 ^ pc ≤ 1024 := Nat.pow_le_pow_right (by decide) hpc
  have t1 : 1 ≤ 2 ^ pc := Nat.one_le_two_pow
  have sh := shl_1 (k := pc) (by omega)
  have b_1 : inb (Int32.ofNat (26 + 3 * k + p)) 1168 = true := inb_nat (by omega) (by decide)
  have n_1 : (Int32.ofNat (26 + 3 * k + p)).toNatClampNeg = 26 + 3 * k + p := i32_nat (by omega)
  have b_2 : inb (Int32.ofNat (10 + k)) 1168 = true := inb_nat (by omega) (by decide)
  have n_2 : (Int32.ofNat (10 + k)).toNatClampNeg = 10 + k := i32_nat (by omega)
  refine lp (n := 2 ^ pc) (I := fun _ a => ∀ s, a.1 = some s → s < 1024) (h := fun _ => h) (f := msT wv (h.mi 283 (26 + 3 * k + p)) (h.mi 283 (10 + k))) (L := fun s a tl => some (.ref 277) :: some (.int (Int32.ofNat k)) :: some (.int (Int32.ofNat p)) :: some (.int (oN a.1)) :: some (.int a.2) :: some (.int (Int32.ofNat s)) :: tl) (r := fun a => some (.inl (some (.int (oN a.1))), h)) ?_ ?_ (2 ^ pc - 1) 1 (none, 0) [] (by omega) (fun s e => by cases e)
  · intro s a tl hs hI
    have e : ¬ Int32.ofNat (2 ^ pc) ≤ Int32.ofNat (s) := by rw [i32_le (by omega) (by omega)]; omega
    have s1 : Int32.ofNat (s) + 1 = Int32.ofNat (s + 1) := i32_add (b := 1)
    have es : ¬ Int32.ofNat s = -1 := oN_s (by omega)
    have gs := m_267 (s := s) (by omega) (h := h)
    obtain ⟨o, lv⟩ := a
    dsimp only [msT]
    generalize hz : h.mi 283 (26 + 3 * k + p) = z
    generalize ht : h.mi 283 (10 + k) = t
    by_cases c1 : wv s = -1
    · rw [if_pos c1]
      refine ⟨hI, some (.int (wv s)) :: some (.int (z + wv s - t)) :: tl.tail.tail, ?_⟩
      rw [D_170_8]
      simp -implicitDefEqProofs only [D_170_0, k_170_0, k_170_8, D_170_70, k_170_70, D_170_104, k_170_104, D_170_111, k_170_111, D_170_117, k_170_117, R_170, g_iconst, g_istore_n, g_istore, v_iload, v_aload_n, g_getfield, sv_a, rf_s, g_bipush, v_iaload, inI_0, g_ishl, g_icmp_ge, v_iload_n, v_callV3, aft_v, aft_n, v_callS2, g_iadd, g_isub, g_icmp_eq, g_if_ge, g_goto, g_icmp_gt, g_icmp_ne, v_callS1, g_icmp_lt, v_iinc, g_ireturn, entL, getL, setL, kL_i, kL_r, isI_s, isR_s, isJ_s, gV_s, iV_i, cs0, cs1, cs2, cs3, cs4, dn_nil, kd_si, kd_sl, kd_sw, mr_si, mr_sl, mr_sw, ml_si, ml_sw, mi_sl, mk_277 H, mk_278 H, mk_279 H, mk_280 H, mk_281 H, mk_282 H, mk_283 H, mk_284 H, mk_285 H, mk_286 H, mk_287 H, mk_288 H, mk_289 H, mr_1 H, mr_11 H, mr_12 H, mr_13 H, mr_14 H, mr_15 H, mr_16 H, mr_17 H, mr_18 H, mr_19 H, mr_24 H, mr_25 H, in_7, ix_7, h7, sh, ↓if_neg e, if_neg e, hw, m_172, la_10, b_1, n_1, b_2, n_2, hz, ht, setL_0, ↓if_pos c1, if_pos c1, s1]
    · rw [if_neg c1]
      by_cases c2 : 0 ≤ z + wv s - t
      · rw [if_pos c2]
        cases o with
        | none =>
          refine ⟨fun s' q => by cases q; omega, some (.int (wv s)) :: some (.int (z + wv s - t)) :: tl.tail.tail, ?_⟩
          have zo : oN none = -1 := rfl
          have zs : oN (some s) = Int32.ofNat s := rfl
          rw [D_170_8]
          simp -implicitDefEqProofs only [D_170_0, k_170_0, k_170_8, D_170_70, k_170_70, D_170_104, k_170_104, D_170_111, k_170_111, D_170_117, k_170_117, R_170, g_iconst, g_istore_n, g_istore, v_iload, v_aload_n, g_getfield, sv_a, rf_s, g_bipush, v_iaload, inI_0, g_ishl, g_icmp_ge, v_iload_n, v_callV3, aft_v, aft_n, v_callS2, g_iadd, g_isub, g_icmp_eq, g_if_ge, g_goto, g_icmp_gt, g_icmp_ne, v_callS1, g_icmp_lt, v_iinc, g_ireturn, entL, getL, setL, kL_i, kL_r, isI_s, isR_s, isJ_s, gV_s, iV_i, cs0, cs1, cs2, cs3, cs4, dn_nil, kd_si, kd_sl, kd_sw, mr_si, mr_sl, mr_sw, ml_si, ml_sw, mi_sl, mk_277 H, mk_278 H, mk_279 H, mk_280 H, mk_281 H, mk_282 H, mk_283 H, mk_284 H, mk_285 H, mk_286 H, mk_287 H, mk_288 H, mk_289 H, mr_1 H, mr_11 H, mr_12 H, mr_13 H, mr_14 H, mr_15 H, mr_16 H, mr_17 H, mr_18 H, mr_19 H, mr_24 H, mr_25 H, in_7, ix_7, h7, sh, ↓if_neg e, if_neg e, hw, m_172, la_10, b_1, n_1, b_2, n_2, hz, ht, setL_0, ↓if_neg c1, if_neg c1, ↓if_pos c2, if_pos c2, zo, zs, ↓if_true, if_true, s1]
        | some b =>
          have hb := hI b rfl
          have zo : oN (some b) = Int32.ofNat b := rfl
          have eb : ¬ Int32.ofNat b = -1 := oN_s (by omega)
          have gb := m_267 (s := b) (by omega) (h := h)
          have zs : oN (some s) = Int32.ofNat s := rfl
          by_cases c3 : lv < z + wv s - t
          · dsimp only
            rw [if_pos c3]
            refine ⟨hI, some (.int (wv s)) :: some (.int (z + wv s - t)) :: tl.tail.tail, ?_⟩
            rw [D_170_8]
            simp -implicitDefEqProofs only [D_170_0, k_170_0, k_170_8, D_170_70, k_170_70, D_170_104, k_170_104, D_170_111, k_170_111, D_170_117, k_170_117, R_170, g_iconst, g_istore_n, g_istore, v_iload, v_aload_n, g_getfield, sv_a, rf_s, g_bipush, v_iaload, inI_0, g_ishl, g_icmp_ge, v_iload_n, v_callV3, aft_v, aft_n, v_callS2, g_iadd, g_isub, g_icmp_eq, g_if_ge, g_goto, g_icmp_gt, g_icmp_ne, v_callS1, g_icmp_lt, v_iinc, g_ireturn, entL, getL, setL, kL_i, kL_r, isI_s, isR_s, isJ_s, gV_s, iV_i, cs0, cs1, cs2, cs3, cs4, dn_nil, kd_si, kd_sl, kd_sw, mr_si, mr_sl, mr_sw, ml_si, ml_sw, mi_sl, mk_277 H, mk_278 H, mk_279 H, mk_280 H, mk_281 H, mk_282 H, mk_283 H, mk_284 H, mk_285 H, mk_286 H, mk_287 H, mk_288 H, mk_289 H, mr_1 H, mr_11 H, mr_12 H, mr_13 H, mr_14 H, mr_15 H, mr_16 H, mr_17 H, mr_18 H, mr_19 H, mr_24 H, mr_25 H, in_7, ix_7, h7, sh, ↓if_neg e, if_neg e, hw, m_172, la_10, b_1, n_1, b_2, n_2, hz, ht, setL_0, ↓if_neg c1, if_neg c1, ↓if_pos c2, if_pos c2, zo, ↓if_neg eb, if_neg eb, ↓if_pos c3, if_pos c3, s1]
          · by_cases c4 : z + wv s - t = lv
            · have hm : ∀ f s : Nat, mbG f s ≤ f := by
                intro f
                induction f with
                | zero => intro s; exact Nat.le_refl 0
                | succ f ih =>
                  intro s
                  unfold mbG
                  split
                  · omega
                  · have := ih (s &&& (s - 1)); omega
              have m1 := hm 1024 s
              have m2 := hm 1024 b
              by_cases c5 : mbG 1024 s < mbG 1024 b
              · dsimp only
                rw [if_neg c3, if_neg (fun q => q.2 c5)]
                have l5 : Int32.ofNat (mbG 1024 s) < Int32.ofNat (mbG 1024 b) := by rw [i32_lt (by omega) (by omega)]; omega
                refine ⟨fun s' q => by cases q; omega, some (.int (wv s)) :: some (.int (z + wv s - t)) :: tl.tail.tail, ?_⟩
                rw [D_170_8]
                simp -implicitDefEqProofs only [D_170_0, k_170_0, k_170_8, D_170_70, k_170_70, D_170_104, k_170_104, D_170_111, k_170_111, D_170_117, k_170_117, R_170, g_iconst, g_istore_n, g_istore, v_iload, v_aload_n, g_getfield, sv_a, rf_s, g_bipush, v_iaload, inI_0, g_ishl, g_icmp_ge, v_iload_n, v_callV3, aft_v, aft_n, v_callS2, g_iadd, g_isub, g_icmp_eq, g_if_ge, g_goto, g_icmp_gt, g_icmp_ne, v_callS1, g_icmp_lt, v_iinc, g_ireturn, entL, getL, setL, kL_i, kL_r, isI_s, isR_s, isJ_s, gV_s, iV_i, cs0, cs1, cs2, cs3, cs4, dn_nil, kd_si, kd_sl, kd_sw, mr_si, mr_sl, mr_sw, ml_si, ml_sw, mi_sl, mk_277 H, mk_278 H, mk_279 H, mk_280 H, mk_281 H, mk_282 H, mk_283 H, mk_284 H, mk_285 H, mk_286 H, mk_287 H, mk_288 H, mk_289 H, mr_1 H, mr_11 H, mr_12 H, mr_13 H, mr_14 H, mr_15 H, mr_16 H, mr_17 H, mr_18 H, mr_19 H, mr_24 H, mr_25 H, in_7, ix_7, h7, sh, ↓if_neg e, if_neg e, hw, m_172, la_10, b_1, n_1, b_2, n_2, hz, ht, setL_0, ↓if_neg c1, if_neg c1, ↓if_pos c2, if_pos c2, zo, zs, ↓if_neg eb, if_neg eb, ↓if_neg c3, if_neg c3, ↓if_pos c4, if_pos c4, gs, gb, ↓if_pos l5, if_pos l5, s1]
              · dsimp only
                rw [if_neg c3, if_pos ⟨c4, c5⟩]
                have l5 : ¬ Int32.ofNat (mbG 1024 s) < Int32.ofNat (mbG 1024 b) := by rw [i32_lt (by omega) (by omega)]; omega
                refine ⟨hI, some (.int (wv s)) :: some (.int (z + wv s - t)) :: tl.tail.tail, ?_⟩
                rw [D_170_8]
                simp -implicitDefEqProofs only [D_170_0, k_170_0, k_170_8, D_170_70, k_170_70, D_170_104, k_170_104, D_170_111, k_170_111, D_170_117, k_170_117, R_170, g_iconst, g_istore_n, g_istore, v_iload, v_aload_n, g_getfield, sv_a, rf_s, g_bipush, v_iaload, inI_0, g_ishl, g_icmp_ge, v_iload_n, v_callV3, aft_v, aft_n, v_callS2, g_iadd, g_isub, g_icmp_eq, g_if_ge, g_goto, g_icmp_gt, g_icmp_ne, v_callS1, g_icmp_lt, v_iinc, g_ireturn, entL, getL, setL, kL_i, kL_r, isI_s, isR_s, isJ_s, gV_s, iV_i, cs0, cs1, cs2, cs3, cs4, dn_nil, kd_si, kd_sl, kd_sw, mr_si, mr_sl, mr_sw, ml_si, ml_sw, mi_sl, mk_277 H, mk_278 H, mk_279 H, mk_280 H, mk_281 H, mk_282 H, mk_283 H, mk_284 H, mk_285 H, mk_286 H, mk_287 H, mk_288 H, mk_289 H, mr_1 H, mr_11 H, mr_12 H, mr_13 H, mr_14 H, mr_15 H, mr_16 H, mr_17 H, mr_18 H, mr_19 H, mr_24 H, mr_25 H, in_7, ix_7, h7, sh, ↓if_neg e, if_neg e, hw, m_172, la_10, b_1, n_1, b_2, n_2, hz, ht, setL_0, ↓if_neg c1, if_neg c1, ↓if_pos c2, if_pos c2, zo, ↓if_neg eb, if_neg eb, ↓if_neg c3, if_neg c3, ↓if_pos c4, if_pos c4, gs, gb, ↓if_neg l5, if_neg l5, s1]
            · dsimp only
              rw [if_neg c3, if_neg (fun q => c4 q.1)]
              refine ⟨fun s' q => by cases q; omega, some (.int (wv s)) :: some (.int (z + wv s - t)) :: tl.tail.tail, ?_⟩
              rw [D_170_8]
              simp -implicitDefEqProofs only [D_170_0, k_170_0, k_170_8, D_170_70, k_170_70, D_170_104, k_170_104, D_170_111, k_170_111, D_170_117, k_170_117, R_170, g_iconst, g_istore_n, g_istore, v_iload, v_aload_n, g_getfield, sv_a, rf_s, g_bipush, v_iaload, inI_0, g_ishl, g_icmp_ge, v_iload_n, v_callV3, aft_v, aft_n, v_callS2, g_iadd, g_isub, g_icmp_eq, g_if_ge, g_goto, g_icmp_gt, g_icmp_ne, v_callS1, g_icmp_lt, v_iinc, g_ireturn, entL, getL, setL, kL_i, kL_r, isI_s, isR_s, isJ_s, gV_s, iV_i, cs0, cs1, cs2, cs3, cs4, dn_nil, kd_si, kd_sl, kd_sw, mr_si, mr_sl, mr_sw, ml_si, ml_sw, mi_sl, mk_277 H, mk_278 H, mk_279 H, mk_280 H, mk_281 H, mk_282 H, mk_283 H, mk_284 H, mk_285 H, mk_286 H, mk_287 H, mk_288 H, mk_289 H, mr_1 H, mr_11 H, mr_12 H, mr_13 H, mr_14 H, mr_15 H, mr_16 H, mr_17 H, mr_18 H, mr_19 H, mr_24 H, mr_25 H, in_7, ix_7, h7, sh, ↓if_neg e, if_neg e, hw, m_172, la_10, b_1, n_1, b_2, n_2, hz, ht, setL_0, ↓if_neg c1, if_neg c1, ↓if_pos c2, if_pos c2, zo, zs, ↓if_neg eb, if_neg eb, ↓if_neg c3, if_neg c3, ↓if_neg c4, if_neg c4, s1]
      · rw [if_neg c2]
        refine ⟨hI, some (.int (wv s)) :: some (.int (z + wv s - t)) :: tl.tail.tail, ?_⟩
        rw [D_170_8]
        simp -implicitDefEqProofs only [D_170_0, k_170_0, k_170_8, D_170_70, k_170_70, D_170_104, k_170_104, D_170_111, k_170_111, D_170_117, k_170_117, R_170, g_iconst, g_istore_n, g_istore, v_iload, v_aload_n, g_getfield, sv_a, rf_s, g_bipush, v_iaload, inI_0, g_ishl, g_icmp_ge, v_iload_n, v_callV3, aft_v, aft_n, v_callS2, g_iadd, g_isub, g_icmp_eq, g_if_ge, g_goto, g_icmp_gt, g_icmp_ne, v_callS1, g_icmp_lt, v_iinc, g_ireturn, entL, getL, setL, kL_i, kL_r, isI_s, isR_s, isJ_s, gV_s, iV_i, cs0, cs1, cs2, cs3, cs4, dn_nil, kd_si, kd_sl, kd_sw, mr_si, mr_sl, mr_sw, ml_si, ml_sw, mi_sl, mk_277 H, mk_278 H, mk_279 H, mk_280 H, mk_281 H, mk_282 H, mk_283 H, mk_284 H, mk_285 H, mk_286 H, mk_287 H, mk_288 H, mk_289 H, mr_1 H, mr_11 H, mr_12 H, mr_13 H, mr_14 H, mr_15 H, mr_16 H, mr_17 H, mr_18 H, mr_19 H, mr_24 H, mr_25 H, in_7, ix_7, h7, sh, ↓if_neg e, if_neg e, hw, m_172, la_10, b_1, n_1, b_2, n_2, hz, ht, setL_0, ↓if_neg c1, if_neg c1, ↓if_neg c2, if_neg c2, s1]
  · intro a tl hI
    have e : Int32.ofNat (2 ^ pc) ≤ Int32.ofNat (2 ^ pc) := by rw [i32_le (by omega) (by omega)]; omega
    rw [D_170_8]
    simp -implicitDefEqProofs only [D_170_0, k_170_0, k_170_8, D_170_70, k_170_70, D_170_104, k_170_104, D_170_111, k_170_111, D_170_117, k_170_117, R_170, g_iconst, g_istore_n, g_istore, v_iload, v_aload_n, g_getfield, sv_a, rf_s, g_bipush, v_iaload, inI_0, g_ishl, g_icmp_ge, v_iload_n, v_callV3, aft_v, aft_n, v_callS2, g_iadd, g_isub, g_icmp_eq, g_if_ge, g_goto, g_icmp_gt, g_icmp_ne, v_callS1, g_icmp_lt, v_iinc, g_ireturn, entL, getL, setL, kL_i, kL_r, isI_s, isR_s, isJ_s, gV_s, iV_i, cs0, cs1, cs2, cs3, cs4, dn_nil, kd_si, kd_sl, kd_sw, mr_si, mr_sl, mr_sw, ml_si, ml_sw, mi_sl, mk_277 H, mk_278 H, mk_279 H, mk_280 H, mk_281 H, mk_282 H, mk_283 H, mk_284 H, mk_285 H, mk_286 H, mk_287 H, mk_288 H, mk_289 H, mr_1 H, mr_11 H, mr_12 H, mr_13 H, mr_14 H, mr_15 H, mr_16 H, mr_17 H, mr_18 H, mr_19 H, mr_24 H, mr_25 H, in_7, ix_7, h7, sh, ↓if_pos e, if_pos e, retX_int]
theorem R_39 : PG.2.1 39 = (some .int) := rfl
theorem m_39n {k p : Int32} {h : Mm} (H : MO h) (hl : h.mi 277 21 = 0) {t : Int32} (g : dM PG 166 [.ref 277, .int k, .int p] h = some (.inl (some (.int t)), h)) : dM PG 39 [.ref 277, .int k, .int p] h = some (.inl (some (.int 0)), h.si 277 0 1) := by
  rw [dM_of (Nat.le_of_ble_eq_true rfl)]
  simp -implicitDefEqProofs only [D_39_0, k_39_0, D_39_22, k_39_22, D_39_23, k_39_23, R_39, v_aload_n, v_iload_n, v_callV3, aft_v, aft_n, v_callV2, g_if_eq, g_goto, g_iconst, g_ireturn, entL, getL, setL, kL_i, kL_r, isI_s, isR_s, isJ_s, gV_s, iV_i, cs0, cs1, cs2, cs3, cs4, dn_nil, kd_si, kd_sl, kd_sw, mr_si, mr_sl, mr_sw, ml_si, ml_sw, mi_sl, mk_277 H, mk_278 H, mk_279 H, mk_280 H, mk_281 H, mk_282 H, mk_283 H, mk_284 H, mk_285 H, mk_286 H, mk_287 H, mk_288 H, mk_289 H, mr_1 H, mr_11 H, mr_12 H, mr_13 H, mr_14 H, mr_15 H, mr_16 H, mr_17 H, mr_18 H, mr_19 H, mr_24 H, mr_25 H, g, m_138n H hl, ↓if_true, if_true, retX_int]
theorem m_39x {k p : Int32} {h : Mm} (H : MO h) (hl : ¬ h.mi 277 21 = 0) (g : dM PG 166 [.ref 277, .int k, .int p] h = some (.inl (some (.int 0)), h)) : dM PG 39 [.ref 277, .int k, .int p] h = some (.inl (some (.int 0)), h.si 277 0 2) := by
  rw [dM_of (Nat.le_of_ble_eq_true rfl)]
  simp -implicitDefEqProofs only [D_39_0, k_39_0, D_39_22, k_39_22, D_39_23, k_39_23, R_39, v_aload_n, v_iload_n, v_callV3, aft_v, aft_n, v_callV2, g_if_eq, g_goto, g_iconst, g_ireturn, entL, getL, setL, kL_i, kL_r, isI_s, isR_s, isJ_s, gV_s, iV_i, cs0, cs1, cs2, cs3, cs4, dn_nil, kd_si, kd_sl, kd_sw, mr_si, mr_sl, mr_sw, ml_si, ml_sw, mi_sl, mk_277 H, mk_278 H, mk_279 H, mk_280 H, mk_281 H, mk_282 H, mk_283 H, mk_284 H, mk_285 H, mk_286 H, mk_287 H, mk_288 H, mk_289 H, mr_1 H, mr_11 H, mr_12 H, mr_13 H, mr_14 H, mr_15 H, mr_16 H, mr_17 H, mr_18 H, mr_19 H, mr_24 H, mr_25 H, g, m_138x H hl, ↓if_true, if_true, retX_int]
theorem m_39y {pc k p : Nat} (hpc : pc ≤ 10) (hk4 : k < 4) (hp3 : p < 3) {h : Mm} (H : MO h) (hl : ¬ h.mi 277 21 = 0) (g : dM PG 166 [.ref 277, .int (Int32.ofNat k), .int (Int32.ofNat p)] h = some (.inl (some (.int 1)), h)) (h7 : h.mi 283 7 = Int32.ofNat pc) (hp : ∀ j, j < pc → inb (h.mi 283 (38 + j)) 80 = true) : dM PG 39 [.ref 277, .int (Int32.ofNat k), .int (Int32.ofNat p)] h = some (.inl (some (.int (oN (fl (msT (wvF (h.mi 283) pc k) (h.mi 283 (26 + 3 * k + p)) (h.mi 283 (10 + k))) (2 ^ pc - 1) 1 (none, 0)).1))), h.si 277 0 0) := by
  rw [dM_of (Nat.le_of_ble_eq_true rfl)]
  have g2 := m_170 hpc hk4 hp3 (h := h.si 277 0 0) H (by rw [mi_sa k283, h7]) (by rw [mi_sa k283]; exact hp)
  rw [mi_sa k283] at g2
  simp -implicitDefEqProofs only [D_39_0, k_39_0, D_39_22, k_39_22, D_39_23, k_39_23, R_39, v_aload_n, v_iload_n, v_callV3, aft_v, aft_n, v_callV2, g_if_eq, g_goto, g_iconst, g_ireturn, entL, getL, setL, kL_i, kL_r, isI_s, isR_s, isJ_s, gV_s, iV_i, cs0, cs1, cs2, cs3, cs4, dn_nil, kd_si, kd_sl, kd_sw, mr_si, mr_sl, mr_sw, ml_si, ml_sw, mi_sl, mk_277 H, mk_278 H, mk_279 H, mk_280 H, mk_281 H, mk_282 H, mk_283 H, mk_284 H, mk_285 H, mk_286 H, mk_287 H, mk_288 H, mk_289 H, mr_1 H, mr_11 H, mr_12 H, mr_13 H, mr_14 H, mr_15 H, mr_16 H, mr_17 H, mr_18 H, mr_19 H, mr_24 H, mr_25 H, g, m_138y H hl, ↓if_neg z_1, if_neg z_1, g2, retX_int]
