-- ===== the model: texts =====
def Mm.pg (h : Mm) (P : Nat → Int32) (n : Nat) : Mm := (h.sw 289 P).si 277 26 (Int32.ofNat n)
theorem pg_k {h : Mm} {P : Nat → Int32} {n : Nat} : (h.pg P n).kd = h.kd := rfl
theorem pg_r {h : Mm} {P : Nat → Int32} {n : Nat} : (h.pg P n).mr = h.mr := rfl
theorem pg_l {h : Mm} {P : Nat → Int32} {n : Nat} : (h.pg P n).ml = h.ml := rfl
theorem pg_p {h : Mm} {P : Nat → Int32} {n : Nat} : (h.pg P n).mi 289 = P := (mi_sa (by decide)).trans mi_sw
theorem pg_n {h : Mm} {P : Nat → Int32} {n : Nat} : (h.pg P n).mi 277 26 = Int32.ofNat n := mi_ss
theorem pg_o {h : Mm} {P : Nat → Int32} {n a : Nat} (h1 : a ≠ 277) (h2 : a ≠ 289) : (h.pg P n).mi a = h.mi a := (mi_sa h1).trans (mi_swo h2)
theorem pg_w {h : Mm} {P Q : Nat → Int32} {n m : Nat} : ((h.pg P n).sw 289 Q).si 277 26 (Int32.ofNat m) = h.pg Q m := by
  unfold Mm.pg
  rw [sw_si (by decide), sw_sw, si_si]
theorem MO_pg {h : Mm} {P : Nat → Int32} {n : Nat} (H : MO h) : MO (h.pg P n) := H
theorem R_139 : PG.2.1 139 = none := rfl
theorem m_139 {x : Int32} {n : Nat} (hn : n < 300) {P : Nat → Int32} {h : Mm} (H : MO h) : dM PG 139 [.ref 277, .int x] (h.pg P n) = some (.inl none, h.pg (zu P n x) (n + 1)) := by
  rw [dM_of (Nat.le_of_ble_eq_true rfl)]
  have b_1 : inb (Int32.ofNat (n)) 300 = true := inb_nat (by omega) (by decide)
  have n_1 : (Int32.ofNat (n)).toNatClampNeg = n := i32_nat (by omega)
  have s1 : Int32.ofNat (n) + 1 = Int32.ofNat (n + 1) := i32_add (b := 1)
  have e : ∀ Q, ((h.pg P n).sw 289 Q).mi 277 26 = Int32.ofNat n := fun Q => by rw [mi_swo (by decide), pg_n]
  simp -implicitDefEqProofs only [D_139_0, k_139_0, R_139, v_aload_n, g_getfield, sv_a, rf_s, g_getfieldS, sv_i, v_iload_n, v_iastore, wrI_0, g_dup_i, g_dup_r, g_iconst, g_iadd, g_put_i, g_return, entL, getL, setL, kL_i, kL_r, isI_s, isR_s, isJ_s, gV_s, iV_i, cs0, cs1, cs2, cs3, cs4, dn_nil, kd_si, kd_sl, kd_sw, mr_si, mr_sl, mr_sw, ml_si, ml_sw, mi_sl, mk_277 H, mk_278 H, mk_279 H, mk_280 H, mk_281 H, mk_282 H, mk_283 H, mk_284 H, mk_285 H, mk_286 H, mk_287 H, mk_288 H, mk_289 H, mr_1 H, mr_11 H, mr_12 H, mr_13 H, mr_14 H, mr_15 H, mr_16 H, mr_17 H, mr_18 H, mr_19 H, mr_24 H, mr_25 H, pg_k, pg_r, pg_n, b_1, n_1, si_sw (a := 289), pg_p, kd_sw, e, s1, pg_w]
/-- the page holds the text t -/
def PgR (P : Nat → Int32) (n : Nat) (t : Tt) : Prop := n = t.1 ∧ ∀ j, j < t.1 → P j = Int32.ofNat (t.2 j)
theorem pr_c {P : Nat → Int32} {n x : Nat} {t : Tt} (R : PgR P n t) : PgR (zu P n (Int32.ofNat x)) (n + 1) (tC x t) := by
  obtain ⟨rfl, h⟩ := R
  refine ⟨rfl, fun j hj => ?_⟩
  show zu P t.1 (Int32.ofNat x) j = Int32.ofNat (zu t.2 t.1 x j)
  by_cases e : j = t.1
  · subst e; rw [zu_same, zu_same]
  · have : j < t.1 + 1 := hj
    rw [zu_o e, zu_o e]; exact h j (by omega)
theorem mt_c {x : Nat} {n : Nat} (hn : n < 300) {P : Nat → Int32} {h : Mm} (H : MO h) {t : Tt} (R : PgR P n t) : ∃ P', dM PG 139 [.ref 277, .int (Int32.ofNat x)] (h.pg P n) = some (.inl none, h.pg P' (n + 1)) ∧ PgR P' (n + 1) (tC x t) := ⟨_, m_139 hn H, pr_c R⟩
theorem R_145 : PG.2.1 145 = none := rfl
theorem m_145 {p q m n : Nat} {d : Nat → Nat} {h : Mm} (H : MO h) (hp : p ≠ 277 ∧ p ≠ 289) (hq : q ≠ 277 ∧ q ≠ 289) (S : STR h p q m d) {P : Nat → Int32} {t : Tt} (R : PgR P n t) (hm : n + m ≤ 300) : ∃ P', dM PG 145 [.ref 277, .ref p] (h.pg P n) = some (.inl none, h.pg P' (n + m)) ∧ PgR P' (n + m) (tS m d t) := by
  have S' : ∀ Q k, STR (h.pg Q k) p q m d := fun Q k => by
    obtain ⟨s1, s2, s3, s4, s5⟩ := S
    refine ⟨s1, ?_, s3, s4, fun j hj => ?_⟩
    · rw [pg_o hp.1 hp.2, s2]
    · rw [pg_o hq.1 hq.2]; exact s5 j hj
  have kp : h.kd p = some (.inl 9) ∨ h.kd p = some (.inl (9 + 1000)) := by
    obtain ⟨-, -, ⟨p1, -⟩ | ⟨p1, -⟩, -⟩ := S
    · exact Or.inl p1
    · exact Or.inr p1
  have hm1 : m < 1000 := S.2.2.2.1
  have g := lm (P := PG) (y := 145) (pc := 2) (n := m) (o := 0) (h := fun k => h.pg (fun j => if j < n then P j else if j < n + k then Int32.ofNat (d (j - n)) else P j) (n + k)) (L := fun k tl => some (.ref 277) :: some (.ref p) :: some (.int (Int32.ofNat k)) :: tl) (by
    intro k tl _ hk
    refine ⟨tl, ?_⟩
    have e : ¬ Int32.ofNat (m) ≤ Int32.ofNat (k) := by rw [i32_le (by omega) (by omega)]; omega
    have s1 : Int32.ofNat (k) + 1 = Int32.ofNat (k + 1) := i32_add (b := 1)
    have g1 := m_244 (S' (fun j => if j < n then P j else if j < n + k then Int32.ofNat (d (j - n)) else P j) (n + k))
    have g2 := m_245 (S' (fun j => if j < n then P j else if j < n + k then Int32.ofNat (d (j - n)) else P j) (n + k)) hk
    have g3 := m_139 (x := Int32.ofNat (d k)) (n := n + k) (by omega) (P := fun j => if j < n then P j else if j < n + k then Int32.ofNat (d (j - n)) else P j) H
    have e3 : zu (fun j => if j < n then P j else if j < n + k then Int32.ofNat (d (j - n)) else P j) (n + k) (Int32.ofNat (d k)) = (fun j => if j < n then P j else if j < n + (k + 1) then Int32.ofNat (d (j - n)) else P j) := by
      funext j
      show (if j = n + k then Int32.ofNat (d k) else if j < n then P j else if j < n + k then Int32.ofNat (d (j - n)) else P j) = _
      by_cases c : j = n + k
      · rw [if_pos c, if_neg (by omega), if_pos (by omega), show j - n = k by omega]
      · rw [if_neg c]
        by_cases c2 : j < n
        · rw [if_pos c2, if_pos c2]
        · rw [if_neg c2, if_neg c2]
          by_cases c3 : j < n + k
          · rw [if_pos c3, if_pos (by omega)]
          · rw [if_neg c3, if_neg (by omega)]
    rw [e3] at g3
    rw [D_145_2]
    rcases kp with kp | kp
    · simp -implicitDefEqProofs only [D_145_0, k_145_0, k_145_2, D_145_25, k_145_25, R_145, g_iconst, g_istore_n, v_iload_n, v_aload_n, v_callV1, aft_v, aft_n, v_callVS1, g_icmp_ge, v_callV2, v_callVS2, v_iinc, g_goto, g_return, entL, getL, setL, kL_i, kL_r, isI_s, isR_s, isJ_s, gV_s, iV_i, cs0, cs1, cs2, cs3, cs4, dn_nil, kd_si, kd_sl, kd_sw, mr_si, mr_sl, mr_sw, ml_si, ml_sw, mi_sl, mk_277 H, mk_278 H, mk_279 H, mk_280 H, mk_281 H, mk_282 H, mk_283 H, mk_284 H, mk_285 H, mk_286 H, mk_287 H, mk_288 H, mk_289 H, mr_1 H, mr_11 H, mr_12 H, mr_13 H, mr_14 H, mr_15 H, mr_16 H, mr_17 H, mr_18 H, mr_19 H, mr_24 H, mr_25 H, pg_k, pg_r, kp, g1, ↓if_neg e, if_neg e, g2, g3, s1]
      rfl
    · simp -implicitDefEqProofs only [D_145_0, k_145_0, k_145_2, D_145_25, k_145_25, R_145, g_iconst, g_istore_n, v_iload_n, v_aload_n, v_callV1, aft_v, aft_n, v_callVS1, g_icmp_ge, v_callV2, v_callVS2, v_iinc, g_goto, g_return, entL, getL, setL, kL_i, kL_r, isI_s, isR_s, isJ_s, gV_s, iV_i, cs0, cs1, cs2, cs3, cs4, dn_nil, kd_si, kd_sl, kd_sw, mr_si, mr_sl, mr_sw, ml_si, ml_sw, mi_sl, mk_277 H, mk_278 H, mk_279 H, mk_280 H, mk_281 H, mk_282 H, mk_283 H, mk_284 H, mk_285 H, mk_286 H, mk_287 H, mk_288 H, mk_289 H, mr_1 H, mr_11 H, mr_12 H, mr_13 H, mr_14 H, mr_15 H, mr_16 H, mr_17 H, mr_18 H, mr_19 H, mr_24 H, mr_25 H, pg_k, pg_r, kp, g1, ↓if_neg e, if_neg e, g2, g3, s1]
      rfl) m 0 [] (Nat.zero_le 0) (by omega)
  obtain ⟨tl, e⟩ := g
  refine ⟨fun j => if j < n then P j else if j < n + m then Int32.ofNat (d (j - n)) else P j, ?_, ?_⟩
  · have e0 : (fun j => if j < n then P j else if j < n + 0 then Int32.ofNat (d (j - n)) else P j) = P := by
      funext j
      by_cases c : j < n
      · rw [if_pos c]
      · rw [if_neg c, if_neg (by omega)]
    rw [e0, Nat.add_zero] at e
    have g1 := m_244 (S' (fun j => if j < n then P j else if j < n + m then Int32.ofNat (d (j - n)) else P j) (n + m))
    have ee : Int32.ofNat (m) ≤ Int32.ofNat (m) := by rw [i32_le (by omega) (by omega)]; omega
    rw [dM_of (Nat.le_of_ble_eq_true rfl)]
    simp -implicitDefEqProofs only [D_145_0, k_145_0, g_iconst, g_istore_n, entL, getL, setL, kL_i, kL_r, isI_s, isR_s, isJ_s, gV_s, iV_i, cs0, cs1, cs2, cs3, cs4, dn_nil, kd_si, kd_sl, kd_sw, mr_si, mr_sl, mr_sw, ml_si, ml_sw, mi_sl]
    refine Eq.trans ?_ (e.trans ?_)
    · exact congrArg (fun z => dB PG 145 2 [some (.ref 277), some (.ref p), some (.int z)] [] (h.pg P n)) (show (0 : Int32) = Int32.ofNat 0 from rfl)
    · rw [D_145_2]
      rcases kp with kp | kp
      · simp -implicitDefEqProofs only [D_145_0, k_145_0, k_145_2, D_145_25, k_145_25, R_145, g_iconst, g_istore_n, v_iload_n, v_aload_n, v_callV1, aft_v, aft_n, v_callVS1, g_icmp_ge, v_callV2, v_callVS2, v_iinc, g_goto, g_return, entL, getL, setL, kL_i, kL_r, isI_s, isR_s, isJ_s, gV_s, iV_i, cs0, cs1, cs2, cs3, cs4, dn_nil, kd_si, kd_sl, kd_sw, mr_si, mr_sl, mr_sw, ml_si, ml_sw, mi_sl, mk_277 H, mk_278 H, mk_279 H, mk_280 H, mk_281 H, mk_282 H, mk_283 H, mk_284 H, mk_285 H, mk_286 H, mk_287 H, mk_288 H, mk_289 H, mr_1 H, mr_11 H, mr_12 H, mr_13 H, mr_14 H, mr_15 H, mr_16 H, mr_17 H, mr_18 H, mr_19 H, mr_24 H, mr_25 H, pg_k, pg_r, kp, g1, ↓if_pos ee, if_pos ee]
      · simp -implicitDefEqProofs only [D_145_0, k_145_0, k_145_2, D_145_25, k_145_25, R_145, g_iconst, g_istore_n, v_iload_n, v_aload_n, v_callV1, aft_v, aft_n, v_callVS1, g_icmp_ge, v_callV2, v_callVS2, v_iinc, g_goto, g_return, entL, getL, setL, kL_i, kL_r, isI_s, isR_s, isJ_s, gV_s, iV_i, cs0, cs1, cs2, cs3, cs4, dn_nil, kd_si, kd_sl, kd_sw, mr_si, mr_sl, mr_sw, ml_si, ml_sw, mi_sl, mk_277 H, mk_278 H, mk_279 H, mk_280 H, mk_281 H, mk_282 H, mk_283 H, mk_284 H, mk_285 H, mk_286 H, mk_287 H, mk_288 H, mk_289 H, mr_1 H, mr_11 H, mr_12 H, mr_13 H, mr_14 H, mr_15 H, mr_16 H, mr_17 H, mr_18 H, mr_19 H, mr_24 H, mr_25 H, pg_k, pg_r, kp, g1, ↓if_pos ee, if_pos ee]
  · obtain ⟨rfl, hR⟩ := R
    refine ⟨rfl, fun j hj => ?_⟩
    show (if j < t.1 then P j else if j < t.1 + m then Int32.ofNat (d (j - t.1)) else P j) = Int32.ofNat (if j < t.1 then t.2 j else if j < t.1 + m then d (j - t.1) else t.2 j)
    by_cases c : j < t.1
    · rw [if_pos c, if_pos c]; exact hR j c
    · have : j < t.1 + m := hj
      rw [if_neg c, if_neg c, if_pos this, if_pos this]
theorem R_142 : PG.2.1 142 = none := rfl
theorem m_142 {v k n : Nat} (hv : v < 1000000000) (hk : dgK v k) {h : Mm} (H : MO h) {P : Nat → Int32} {t : Tt} (R : PgR P n t) (hm : n + k ≤ 300) : ∃ P', dM PG 142 [.ref 277, .int (Int32.ofNat v)] (h.pg P n) = some (.inl none, h.pg P' (n + k)) ∧ PgR P' (n + k) (tN v k t) := by
  have k9 := dgK_10 hk hv
  have k1 := hk.1
  have z10 : ¬ (10 : Int32) = 0 := by decide
  -- the greatest unit
  have up : ∀ d i : Nat, i + d + 1 = k → dB PG 142 2 [some (.ref 277), some (.int (Int32.ofNat v)), some (.int (Int32.ofNat (10 ^ i)))] [] (h.pg P n) = dB PG 142 18 [some (.ref 277), some (.int (Int32.ofNat v)), some (.int (Int32.ofNat (10 ^ (k - 1))))] [] (h.pg P n) := by
    intro d
    induction d with
    | zero =>
      intro i hi
      have ei : k - 1 = i := by omega
      have p9 : 10 ^ i ≤ 10 ^ 8 := Nat.pow_le_pow_right (by decide) (by omega)
      have p0 : 0 < 10 ^ i := Nat.pow_pos (by decide)
      have zi : ¬ Int32.ofNat (10 ^ i) = 0 := fun q => by
        have := (i32_z (by omega)).mp q; omega
      have hlt : v / 10 ^ i < 10 := by
        have hk2 : v < 10 ^ (i + 1) := by rw [show i + 1 = k by omega]; exact hk.2.1
        rw [Nat.pow_succ] at hk2
        exact Nat.div_lt_of_lt_mul hk2
      have c1 : Int32.ofNat (v / 10 ^ i) < 10 := by
        show Int32.ofNat (v / 10 ^ i) < Int32.ofNat 10
        rw [i32_lt (by omega) (by omega)]; exact hlt
      rw [ei, D_142_2]
      simp -implicitDefEqProofs only [D_142_0, k_142_0, k_142_2, k_142_18, D_142_43, k_142_43, R_142, g_iconst, g_istore_n, v_iload_n, g_idiv, g_bipush, g_icmp_lt, g_imul, g_goto, g_if_le, v_aload_n, g_irem, g_iadd, v_callV2, aft_v, aft_n, g_return, entL, getL, setL, kL_i, kL_r, isI_s, isR_s, isJ_s, gV_s, iV_i, cs0, cs1, cs2, cs3, cs4, dn_nil, kd_si, kd_sl, kd_sw, mr_si, mr_sl, mr_sw, ml_si, ml_sw, mi_sl, ↓if_neg zi, if_neg zi, i32_div (show v < 2147483648 by omega) (show 10 ^ i < 2147483648 by omega), ↓if_pos c1, if_pos c1]
    | succ d ih =>
      intro i hi
      have p9 : 10 ^ (i + 1) ≤ 10 ^ 8 := Nat.pow_le_pow_right (by decide) (by omega)
      have p8 : 10 ^ i ≤ 10 ^ (i + 1) := Nat.pow_le_pow_right (by decide) (by omega)
      have p0 : 0 < 10 ^ i := Nat.pow_pos (by decide)
      have zi : ¬ Int32.ofNat (10 ^ i) = 0 := fun q => by
        have := (i32_z (by omega)).mp q; omega
      have hge : 10 ^ (i + 1) ≤ v := by
        rcases hk.2.2 with q | q
        · omega
        · exact Nat.le_trans (Nat.pow_le_pow_right (by decide) (by omega)) q
      have hge2 : 10 ≤ v / 10 ^ i := by
        rw [Nat.le_div_iff_mul_le p0, Nat.mul_comm, ← Nat.pow_succ]; exact hge
      have hvl : v / 10 ^ i ≤ v := Nat.div_le_self _ _
      have c1 : ¬ Int32.ofNat (v / 10 ^ i) < 10 := by
        show ¬ Int32.ofNat (v / 10 ^ i) < Int32.ofNat 10
        rw [i32_lt (by omega) (by omega)]; omega
      have m1 : Int32.ofNat (10 ^ i) * 10 = Int32.ofNat (10 ^ (i + 1)) := by
        rw [Nat.pow_succ]; exact i32_mul (b := 10)
      rw [← ih (i + 1) (by omega), D_142_2]
      simp -implicitDefEqProofs only [D_142_0, k_142_0, k_142_2, k_142_18, D_142_43, k_142_43, R_142, g_iconst, g_istore_n, v_iload_n, g_idiv, g_bipush, g_icmp_lt, g_imul, g_goto, g_if_le, v_aload_n, g_irem, g_iadd, v_callV2, aft_v, aft_n, g_return, entL, getL, setL, kL_i, kL_r, isI_s, isR_s, isJ_s, gV_s, iV_i, cs0, cs1, cs2, cs3, cs4, dn_nil, kd_si, kd_sl, kd_sw, mr_si, mr_sl, mr_sw, ml_si, ml_sw, mi_sl, ↓if_neg zi, if_neg zi, i32_div (show v < 2147483648 by omega) (show 10 ^ i < 2147483648 by omega), ↓if_neg c1, if_neg c1, m1]
  obtain ⟨un, hun⟩ : ∃ un : Nat → Nat, ∀ i, un i = if i < k then 10 ^ (k - 1 - i) else 0 := ⟨fun i => if i < k then 10 ^ (k - 1 - i) else 0, fun _ => rfl⟩
  obtain ⟨B, hB⟩ : ∃ B : Nat → Nat → Int32, ∀ i j, B i j = if j < n then P j else if j < n + i then Int32.ofNat (48 + v / 10 ^ (n + k - 1 - j) % 10) else P j := ⟨fun i j => if j < n then P j else if j < n + i then Int32.ofNat (48 + v / 10 ^ (n + k - 1 - j) % 10) else P j, fun _ _ => rfl⟩
  have g := lm (P := PG) (y := 142) (pc := 18) (n := k) (o := 0) (h := fun i => h.pg (B i) (n + i)) (L := fun i tl => some (.ref 277) :: some (.int (Int32.ofNat v)) :: some (.int (Int32.ofNat (un i))) :: tl) (by
    intro i tl _ hi
    refine ⟨tl, ?_⟩
    have u1 : un i = 10 ^ (k - 1 - i) := by rw [hun, if_pos hi]
    have p8 : 10 ^ (k - 1 - i) ≤ 10 ^ 8 := Nat.pow_le_pow_right (by decide) (by omega)
    have p0 : 0 < 10 ^ (k - 1 - i) := Nat.pow_pos (by decide)
    have c1 : ¬ Int32.ofNat (un i) ≤ 0 := by
      show ¬ Int32.ofNat (un i) ≤ Int32.ofNat 0
      rw [i32_le (by omega) (by omega)]; omega
    have zi : ¬ Int32.ofNat (un i) = 0 := fun q => by
      have := (i32_z (by omega)).mp q; omega
    have hvl : v / un i ≤ v := Nat.div_le_self _ _
    have r1 : Int32.ofNat (v / un i) - Int32.ofNat (v / un i) / 10 * 10 = Int32.ofNat (v / un i % 10) := i32_rem (b := 10) (by omega) (by omega)
    have dv : Int32.ofNat (un i) / 10 = Int32.ofNat (un (i + 1)) := by
      have e : un i / 10 = un (i + 1) := by
        rw [u1, hun]
        by_cases c : i + 1 < k
        · rw [if_pos c]
          obtain ⟨j, hj⟩ : ∃ j, k - 1 - i = j + 1 := ⟨k - 1 - i - 1, by omega⟩
          rw [hj, Nat.pow_succ, Nat.mul_div_cancel _ (by decide), show k - 1 - (i + 1) = j by omega]
        · rw [if_neg c, show k - 1 - i = 0 by omega]
      rw [← e]
      exact i32_div (b := 10) (by omega) (by omega)
    have g3 := m_139 (x := Int32.ofNat (48 + v / un i % 10)) (n := n + i) (by omega) (P := B i) H
    have e3 : zu (B i) (n + i) (Int32.ofNat (48 + v / un i % 10)) = B (i + 1) := by
      funext j
      rw [hB (i + 1) j]
      by_cases c : j = n + i
      · subst c
        rw [zu_same, if_neg (by omega), if_pos (by omega), u1, show n + k - 1 - (n + i) = k - 1 - i by omega]
      · rw [zu_o c, hB i j]
        by_cases c2 : j < n
        · rw [if_pos c2, if_pos c2]
        · rw [if_neg c2, if_neg c2]
          by_cases c3 : j < n + i
          · rw [if_pos c3, if_pos (by omega)]
          · rw [if_neg c3, if_neg (by omega)]
    rw [e3] at g3
    rw [D_142_18]
    simp -implicitDefEqProofs only [D_142_0, k_142_0, D_142_2, k_142_2, k_142_18, D_142_43, k_142_43, R_142, g_iconst, g_istore_n, v_iload_n, g_idiv, g_bipush, g_icmp_lt, g_imul, g_goto, g_if_le, v_aload_n, g_irem, g_iadd, v_callV2, aft_v, aft_n, g_return, entL, getL, setL, kL_i, kL_r, isI_s, isR_s, isJ_s, gV_s, iV_i, cs0, cs1, cs2, cs3, cs4, dn_nil, kd_si, kd_sl, kd_sw, mr_si, mr_sl, mr_sw, ml_si, ml_sw, mi_sl, mk_277 H, mk_278 H, mk_279 H, mk_280 H, mk_281 H, mk_282 H, mk_283 H, mk_284 H, mk_285 H, mk_286 H, mk_287 H, mk_288 H, mk_289 H, mr_1 H, mr_11 H, mr_12 H, mr_13 H, mr_14 H, mr_15 H, mr_16 H, mr_17 H, mr_18 H, mr_19 H, mr_24 H, mr_25 H, pg_k, ↓if_neg c1, if_neg c1, ↓if_neg zi, if_neg zi, ↓if_neg z10, if_neg z10, i32_div (show v < 2147483648 by omega) (show un i < 2147483648 by omega), r1, la_48, g3, dv]
    rfl) k 0 [] (Nat.zero_le 0) (by omega)
  obtain ⟨tl, e⟩ := g
  have B0 : B 0 = P := by
    funext j
    rw [hB]
    by_cases c : j < n
    · rw [if_pos c]
    · rw [if_neg c, if_neg (by omega)]
  have u0 : un 0 = 10 ^ (k - 1) := by rw [hun, if_pos (by omega), Nat.sub_zero]
  have uk : un k = 0 := by rw [hun, if_neg (by omega)]
  rw [B0, Nat.add_zero, u0, uk] at e
  have c0 : Int32.ofNat 0 ≤ 0 := by decide
  refine ⟨B k, ?_, ?_⟩
  · rw [dM_of (Nat.le_of_ble_eq_true rfl)]
    simp -implicitDefEqProofs only [D_142_0, k_142_0, g_iconst, g_istore_n, entL, getL, setL, kL_i, kL_r, isI_s, isR_s, isJ_s, gV_s, iV_i, cs0, cs1, cs2, cs3, cs4, dn_nil, kd_si, kd_sl, kd_sw, mr_si, mr_sl, mr_sw, ml_si, ml_sw, mi_sl]
    have e1 := up (k - 1) 0 (by omega)
    rw [Nat.pow_zero, show Int32.ofNat 1 = 1 from rfl] at e1
    refine e1.trans (e.trans ?_)
    rw [D_142_18]
    simp -implicitDefEqProofs only [D_142_0, k_142_0, D_142_2, k_142_2, k_142_18, D_142_43, k_142_43, R_142, g_iconst, g_istore_n, v_iload_n, g_idiv, g_bipush, g_icmp_lt, g_imul, g_goto, g_if_le, v_aload_n, g_irem, g_iadd, v_callV2, aft_v, aft_n, g_return, entL, getL, setL, kL_i, kL_r, isI_s, isR_s, isJ_s, gV_s, iV_i, cs0, cs1, cs2, cs3, cs4, dn_nil, kd_si, kd_sl, kd_sw, mr_si, mr_sl, mr_sw, ml_si, ml_sw, mi_sl, ↓if_pos c0, if_pos c0]
  · obtain ⟨rfl, hR⟩ := R
    refine ⟨rfl, fun j hj => ?_⟩
    rw [hB]
    show _ = Int32.ofNat (if j < t.1 then t.2 j else if j < t.1 + k then 48 + v / 10 ^ (t.1 + k - 1 - j) % 10 else t.2 j)
    by_cases c : j < t.1
    · rw [if_pos c, if_pos c]; exact hR j c
    · have : j < t.1 + k := hj
      rw [if_neg c, if_neg c, if_pos this, if_pos this]
