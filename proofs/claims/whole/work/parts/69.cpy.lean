-- ===== the grader: copying a state =====
theorem sw_sb {h : Mm} {b o : Nat} {f : Nat → Int32} {R : Nat → Nat → Int32} (ho : o < 19) : (h.sb b R).sw (b + o) f = h.sb b (zu R o f) := by
  show (h.1, h.2.1, zu (h.sb b R).mi (b + o) f, h.ml, h.mr) = (h.1, h.2.1, (fun a => if b ≤ a ∧ a < b + 19 then zu R o f (a - b) else h.mi a), h.ml, h.mr)
  have e : zu (h.sb b R).mi (b + o) f = (fun a => if b ≤ a ∧ a < b + 19 then zu R o f (a - b) else h.mi a) := by
    funext a
    unfold zu
    by_cases c : a = b + o
    · subst c
      rw [if_pos rfl, if_pos (by omega), Nat.add_sub_cancel_left, if_pos rfl]
    · rw [if_neg c]
      by_cases c2 : b ≤ a ∧ a < b + 19
      · rw [if_pos c2, if_neg (by omega)]
        obtain ⟨q, rfl⟩ := Nat.exists_eq_add_of_le c2.1
        rw [mi_sb (by omega), Nat.add_sub_cancel_left]
      · rw [if_neg c2, mi_sbo (by omega)]
  rw [e]
theorem i32_0n {n : Nat} (hn : n < 2147483648) : ¬ Int32.ofNat n < 0 := by
  show ¬ Int32.ofNat n < Int32.ofNat 0
  rw [i32_lt hn (by decide)]; omega
theorem aCpy_i {h : Mm} {p q n0 n1 n : Nat} (hp : h.kd p = some (.inr (.int, n0))) (hq : h.kd q = some (.inr (.int, n1))) (h0 : n ≤ n0) (h1 : n ≤ n1) (hn : n < 2147483648) : aCpy h p q 0 0 (Int32.ofNat n) = some (h.sw q (va_cpy (h.mi p) (h.mi q) 0 0 n)) := by
  unfold aCpy
  rw [hp, hq]
  show (if (0 : Int32) < 0 ∨ (0 : Int32) < 0 ∨ Int32.ofNat n < 0 ∨ n0 < (0 : Int32).toNatClampNeg + (Int32.ofNat n).toNatClampNeg ∨ n1 < (0 : Int32).toNatClampNeg + (Int32.ofNat n).toNatClampNeg then none else some (h.sw q (va_cpy (h.mi p) (h.mi q) (0 : Int32).toNatClampNeg (0 : Int32).toNatClampNeg (Int32.ofNat n).toNatClampNeg))) = _
  rw [i32_nat hn, ix_0, if_neg]
  intro hc
  rcases hc with hc | hc | hc | hc | hc
  · exact absurd hc (by decide)
  · exact absurd hc (by decide)
  · exact i32_0n hn hc
  · omega
  · omega
/-- the first n of a row from another -/
def upto (n : Nat) (f g : Nat → Int32) : Nat → Int32 := fun k => if k < n then f k else g k
theorem va_upto {n : Nat} {f g : Nat → Int32} : va_cpy f g 0 0 n = upto n f g := by
  funext k
  unfold va_cpy upto
  by_cases c : k < n
  · rw [if_pos (by omega), if_pos c]; congr 1; omega
  · rw [if_neg (by omega), if_neg c]
def lims (n m : Nat) : Nat → Nat
  | 0 => 6
  | 1 => 10
  | 2 => 4
  | 3 => 4
  | 4 => 4
  | 5 => 4
  | 6 => 12
  | 7 => 2
  | 8 => n
  | 9 => n
  | 10 => n
  | 11 => n
  | 12 => n * 4
  | 13 => 2
  | 14 => m
  | 15 => m
  | 16 => m
  | 17 => m
  | 18 => m
  | _ => 0
/-- a copy of R over Q: n items, m boxes -/
def cpR (n m : Nat) (R Q : Nat → Nat → Int32) : Nat → Nat → Int32 := fun o => upto (lims n m o) (R o) (Q o)
theorem bw_1 {h : Mm} {b : Nat} {f : Nat → Int32} {R : Nat → Nat → Int32} : (h.sb b R).sw (b + 1) f = h.sb b (zu R 1 f) := sw_sb (by decide)
theorem bw_2 {h : Mm} {b : Nat} {f : Nat → Int32} {R : Nat → Nat → Int32} : (h.sb b R).sw (b + 2) f = h.sb b (zu R 2 f) := sw_sb (by decide)
theorem bw_3 {h : Mm} {b : Nat} {f : Nat → Int32} {R : Nat → Nat → Int32} : (h.sb b R).sw (b + 3) f = h.sb b (zu R 3 f) := sw_sb (by decide)
theorem bw_4 {h : Mm} {b : Nat} {f : Nat → Int32} {R : Nat → Nat → Int32} : (h.sb b R).sw (b + 4) f = h.sb b (zu R 4 f) := sw_sb (by decide)
theorem bw_5 {h : Mm} {b : Nat} {f : Nat → Int32} {R : Nat → Nat → Int32} : (h.sb b R).sw (b + 5) f = h.sb b (zu R 5 f) := sw_sb (by decide)
theorem bw_6 {h : Mm} {b : Nat} {f : Nat → Int32} {R : Nat → Nat → Int32} : (h.sb b R).sw (b + 6) f = h.sb b (zu R 6 f) := sw_sb (by decide)
theorem bw_8 {h : Mm} {b : Nat} {f : Nat → Int32} {R : Nat → Nat → Int32} : (h.sb b R).sw (b + 8) f = h.sb b (zu R 8 f) := sw_sb (by decide)
theorem bw_9 {h : Mm} {b : Nat} {f : Nat → Int32} {R : Nat → Nat → Int32} : (h.sb b R).sw (b + 9) f = h.sb b (zu R 9 f) := sw_sb (by decide)
theorem bw_10 {h : Mm} {b : Nat} {f : Nat → Int32} {R : Nat → Nat → Int32} : (h.sb b R).sw (b + 10) f = h.sb b (zu R 10 f) := sw_sb (by decide)
theorem bw_11 {h : Mm} {b : Nat} {f : Nat → Int32} {R : Nat → Nat → Int32} : (h.sb b R).sw (b + 11) f = h.sb b (zu R 11 f) := sw_sb (by decide)
theorem bw_12 {h : Mm} {b : Nat} {f : Nat → Int32} {R : Nat → Nat → Int32} : (h.sb b R).sw (b + 12) f = h.sb b (zu R 12 f) := sw_sb (by decide)
theorem bw_14 {h : Mm} {b : Nat} {f : Nat → Int32} {R : Nat → Nat → Int32} : (h.sb b R).sw (b + 14) f = h.sb b (zu R 14 f) := sw_sb (by decide)
theorem bw_15 {h : Mm} {b : Nat} {f : Nat → Int32} {R : Nat → Nat → Int32} : (h.sb b R).sw (b + 15) f = h.sb b (zu R 15 f) := sw_sb (by decide)
theorem bw_16 {h : Mm} {b : Nat} {f : Nat → Int32} {R : Nat → Nat → Int32} : (h.sb b R).sw (b + 16) f = h.sb b (zu R 16 f) := sw_sb (by decide)
theorem bw_17 {h : Mm} {b : Nat} {f : Nat → Int32} {R : Nat → Nat → Int32} : (h.sb b R).sw (b + 17) f = h.sb b (zu R 17 f) := sw_sb (by decide)
theorem bw_18 {h : Mm} {b : Nat} {f : Nat → Int32} {R : Nat → Nat → Int32} : (h.sb b R).sw (b + 18) f = h.sb b (zu R 18 f) := sw_sb (by decide)
theorem zu_o {α : Type} {f : Nat → α} {k j : Nat} {v : α} (hj : j ≠ k) : zu f k v j = f j := if_neg hj
/-- the copying call, as simp takes it -/
def cpOk (h : Mm) (p q : Nat) (n : Nat) : Prop := ∃ n0 n1, h.kd p = some (.inr (.int, n0)) ∧ h.kd q = some (.inr (.int, n1)) ∧ n ≤ n0 ∧ n ≤ n1 ∧ n < 2147483648
theorem v_cpy {P : Pg} {y fin nx a w : Nat} {ty : FieldType} {rs : List Rw} {L : Lc} {st : List Value} {h : Mm} {ix p q n : Nat} {u : Int32} (h8 : catS st ≤ 8) (hz : cpOk h p q n) : dn P y ((.invokestatic ix, nx, a, 4, .int u, ty, w) :: rs) fin L (.int (Int32.ofNat n) :: .int 0 :: .ref q :: .int 0 :: .ref p :: st) h = dn P y rs fin L st (h.sw q (upto n (h.mi p) (h.mi q))) := by
  obtain ⟨n0, n1, e0, e1, l0, l1, ln⟩ := hz
  rw [g_cpy h8 (aCpy_i e0 e1 l0 l1 ln), va_upto]
theorem cpOk_i {h : Mm} {p q n n0 n1 : Nat} (e0 : h.kd p = some (.inr (.int, n0))) (e1 : h.kd q = some (.inr (.int, n1))) (l0 : n ≤ n0) (l1 : n ≤ n1) (ln : n < 2147483648) : cpOk h p q n := ⟨n0, n1, e0, e1, l0, l1, ln⟩
theorem cpOk_sb {h : Mm} {b p q n : Nat} {R : Nat → Nat → Int32} : cpOk (h.sb b R) p q n = cpOk h p q n := rfl
theorem up_1 {Q : Nat → Nat → Int32} {o : Nat} {f : Nat → Int32} : zu2 Q o 0 (f 0) = zu Q o (upto 1 f (Q o)) := by
  funext a k
  unfold zu2 zu upto
  by_cases c : a = o
  · subst c
    rw [if_pos rfl, if_pos rfl]
    by_cases c1 : k = 0
    · subst c1; rw [if_pos rfl, if_pos (by decide)]
    · rw [if_neg c1, if_neg (by omega)]
  · rw [if_neg c, if_neg c]
theorem up_s {Q : Nat → Nat → Int32} {o j : Nat} {f g : Nat → Int32} : zu2 (zu Q o (upto j f g)) o j (f j) = zu Q o (upto (j + 1) f g) := by
  funext a k
  unfold zu2 zu upto
  by_cases c : a = o
  · subst c
    rw [if_pos rfl, if_pos rfl, if_pos rfl]
    by_cases c1 : k = j
    · subst c1; rw [if_pos rfl, if_pos (by omega)]
    · rw [if_neg c1]
      by_cases c2 : k < j
      · rw [if_pos c2, if_pos (by omega)]
      · rw [if_neg c2, if_neg (by omega)]
  · rw [if_neg c, if_neg c, if_neg c]
theorem up_lt {n k : Nat} {f g : Nat → Int32} (hk : k < n) : upto n f g k = f k := if_pos hk
theorem R_308 : PG.2.1 308 = none := rfl
def cpB (m b : Nat) (h : Mm) (Q : Nat → Nat → Int32) : Nat → Nat → Int32 := zu (zu (zu (zu (zu (zu Q 13 (upto 2 (h.mi (b + 13)) (Q 13))) 14 (upto (m) (h.mi (b + 14)) (Q 14))) 15 (upto (m) (h.mi (b + 15)) (Q 15))) 16 (upto (m) (h.mi (b + 16)) (Q 16))) 17 (upto (m) (h.mi (b + 17)) (Q 17))) 18 (upto (m) (h.mi (b + 18)) (Q 18))
theorem m_308 {b c m : Nat} (hm : m ≤ 80) (hbc : b + 19 ≤ c ∨ c + 19 ≤ b) {h : Mm} (Tb : ST h b) (Tc : ST h c) {Q : Nat → Nat → Int32} (hb : h.mi (b + 13) 0 = Int32.ofNat m) : dM PG 308 [.ref (c + 13), .ref (b + 13)] (h.sb c Q) = some (.inl none, h.sb c (cpB m b h Q)) := by
  rw [dM_of (Nat.le_of_ble_eq_true rfl)]
  unfold cpB
  have x13 : ∀ Q, (h.sb c Q).mi (b + 13) = h.mi (b + 13) := fun Q => mi_sbo (by omega)
  have x14 : ∀ Q, (h.sb c Q).mi (b + 14) = h.mi (b + 14) := fun Q => mi_sbo (by omega)
  have x15 : ∀ Q, (h.sb c Q).mi (b + 15) = h.mi (b + 15) := fun Q => mi_sbo (by omega)
  have x16 : ∀ Q, (h.sb c Q).mi (b + 16) = h.mi (b + 16) := fun Q => mi_sbo (by omega)
  have x17 : ∀ Q, (h.sb c Q).mi (b + 17) = h.mi (b + 17) := fun Q => mi_sbo (by omega)
  have x18 : ∀ Q, (h.sb c Q).mi (b + 18) = h.mi (b + 18) := fun Q => mi_sbo (by omega)
  have y14 : cpOk h (b + 14) (c + 14) (m) := cpOk_i (st_k14 Tb) (st_k14 Tc) (by omega) (by omega) (by omega)
  have y15 : cpOk h (b + 15) (c + 15) (m) := cpOk_i (st_k15 Tb) (st_k15 Tc) (by omega) (by omega) (by omega)
  have y16 : cpOk h (b + 16) (c + 16) (m) := cpOk_i (st_k16 Tb) (st_k16 Tc) (by omega) (by omega) (by omega)
  have y17 : cpOk h (b + 17) (c + 17) (m) := cpOk_i (st_k17 Tb) (st_k17 Tc) (by omega) (by omega) (by omega)
  have y18 : cpOk h (b + 18) (c + 18) (m) := cpOk_i (st_k18 Tb) (st_k18 Tc) (by omega) (by omega) (by omega)
  have u1 : ∀ Q g, zu2 (zu Q 13 (upto 1 (h.mi (b + 13)) g)) 13 1 (h.mi (b + 13) 1) = zu Q 13 (upto 2 (h.mi (b + 13)) g) := fun Q g => up_s
  have w0 : ∀ g, upto 2 (h.mi (b + 13)) g 0 = Int32.ofNat m := fun g => (up_lt (by decide)).trans hb
  have n13_14 : (13 : Nat) ≠ 14 := by decide
  have n13_15 : (13 : Nat) ≠ 15 := by decide
  have n13_16 : (13 : Nat) ≠ 16 := by decide
  have n13_17 : (13 : Nat) ≠ 17 := by decide
  have n13_18 : (13 : Nat) ≠ 18 := by decide
  have n14_13 : (14 : Nat) ≠ 13 := by decide
  have n14_15 : (14 : Nat) ≠ 15 := by decide
  have n14_16 : (14 : Nat) ≠ 16 := by decide
  have n14_17 : (14 : Nat) ≠ 17 := by decide
  have n14_18 : (14 : Nat) ≠ 18 := by decide
  have n15_13 : (15 : Nat) ≠ 13 := by decide
  have n15_14 : (15 : Nat) ≠ 14 := by decide
  have n15_16 : (15 : Nat) ≠ 16 := by decide
  have n15_17 : (15 : Nat) ≠ 17 := by decide
  have n15_18 : (15 : Nat) ≠ 18 := by decide
  have n16_13 : (16 : Nat) ≠ 13 := by decide
  have n16_14 : (16 : Nat) ≠ 14 := by decide
  have n16_15 : (16 : Nat) ≠ 15 := by decide
  have n16_17 : (16 : Nat) ≠ 17 := by decide
  have n16_18 : (16 : Nat) ≠ 18 := by decide
  have n17_13 : (17 : Nat) ≠ 13 := by decide
  have n17_14 : (17 : Nat) ≠ 14 := by decide
  have n17_15 : (17 : Nat) ≠ 15 := by decide
  have n17_16 : (17 : Nat) ≠ 16 := by decide
  have n17_18 : (17 : Nat) ≠ 18 := by decide
  have n18_13 : (18 : Nat) ≠ 13 := by decide
  have n18_14 : (18 : Nat) ≠ 14 := by decide
  have n18_15 : (18 : Nat) ≠ 15 := by decide
  have n18_16 : (18 : Nat) ≠ 16 := by decide
  have n18_17 : (18 : Nat) ≠ 17 := by decide
  simp -implicitDefEqProofs only [D_308_0, k_308_0, R_308, v_aload_n, g_getfield, sv_i, rf_s, g_put_i, sv_a, g_iconst, v_cpy, g_return, entL, getL, setL, kL_i, kL_r, isI_s, isR_s, isJ_s, gV_s, iV_i, cs0, cs1, cs2, cs3, cs4, dn_nil, kd_si, kd_sl, kd_sw, mr_si, mr_sl, mr_sw, ml_si, ml_sw, mi_sl, st_k Tb, st_r6 Tb, st_r7 Tb, st_r8 Tb, st_r9 Tb, st_r10 Tb, st_r11 Tb, st_r12 Tb, st_r13 Tb, st_k1 Tb, st_k2 Tb, st_k3 Tb, st_k4 Tb, st_k5 Tb, st_k6 Tb, st_ki Tb, st_i2 Tb, st_i3 Tb, st_i4 Tb, st_i5 Tb, st_i6 Tb, st_k8 Tb, st_k9 Tb, st_k10 Tb, st_k11 Tb, st_k12 Tb, st_kb Tb, st_b2 Tb, st_b3 Tb, st_b4 Tb, st_b5 Tb, st_b6 Tb, st_k14 Tb, st_k15 Tb, st_k16 Tb, st_k17 Tb, st_k18 Tb, st_k Tc, st_r6 Tc, st_r7 Tc, st_r8 Tc, st_r9 Tc, st_r10 Tc, st_r11 Tc, st_r12 Tc, st_r13 Tc, st_k1 Tc, st_k2 Tc, st_k3 Tc, st_k4 Tc, st_k5 Tc, st_k6 Tc, st_ki Tc, st_i2 Tc, st_i3 Tc, st_i4 Tc, st_i5 Tc, st_i6 Tc, st_k8 Tc, st_k9 Tc, st_k10 Tc, st_k11 Tc, st_k12 Tc, st_kb Tc, st_b2 Tc, st_b3 Tc, st_b4 Tc, st_b5 Tc, st_b6 Tc, st_k14 Tc, st_k15 Tc, st_k16 Tc, st_k17 Tc, st_k18 Tc, kd_sb, mr_sb, ml_sb, bm_0, bm_1, bm_2, bm_3, bm_4, bm_5, bm_6, bm_7, bm_8, bm_9, bm_10, bm_11, bm_12, bm_13, bm_14, bm_15, bm_16, bm_17, bm_18, bs_0, bs_1, bs_2, bs_3, bs_4, bs_5, bs_6, bs_7, bs_8, bs_9, bs_10, bs_11, bs_12, bs_13, bs_14, bs_15, bs_16, bs_17, bs_18, x13, x14, x15, x16, x17, x18, y14, y15, y16, y17, y18, up_1 (f := h.mi (b + 13)), u1, w0, cpOk_sb, zu_same, bw_14, bw_15, bw_16, bw_17, bw_18, zu_o n13_14, zu_o n13_15, zu_o n13_16, zu_o n13_17, zu_o n13_18, zu_o n14_13, zu_o n14_15, zu_o n14_16, zu_o n14_17, zu_o n14_18, zu_o n15_13, zu_o n15_14, zu_o n15_16, zu_o n15_17, zu_o n15_18, zu_o n16_13, zu_o n16_14, zu_o n16_15, zu_o n16_17, zu_o n16_18, zu_o n17_13, zu_o n17_14, zu_o n17_15, zu_o n17_16, zu_o n17_18, zu_o n18_13, zu_o n18_14, zu_o n18_15, zu_o n18_16, zu_o n18_17]
theorem R_307 : PG.2.1 307 = none := rfl
def cpI (n b : Nat) (h : Mm) (Q : Nat → Nat → Int32) : Nat → Nat → Int32 := zu (zu (zu (zu (zu (zu Q 7 (upto 2 (h.mi (b + 7)) (Q 7))) 8 (upto (n) (h.mi (b + 8)) (Q 8))) 9 (upto (n) (h.mi (b + 9)) (Q 9))) 10 (upto (n) (h.mi (b + 10)) (Q 10))) 11 (upto (n) (h.mi (b + 11)) (Q 11))) 12 (upto (n * 4) (h.mi (b + 12)) (Q 12))
theorem m_307 {b c n : Nat} (hm : n ≤ 80) (hbc : b + 19 ≤ c ∨ c + 19 ≤ b) {h : Mm} (Tb : ST h b) (Tc : ST h c) {Q : Nat → Nat → Int32} (hb : h.mi (b + 7) 0 = Int32.ofNat n) : dM PG 307 [.ref (c + 7), .ref (b + 7)] (h.sb c Q) = some (.inl none, h.sb c (cpI n b h Q)) := by
  rw [dM_of (Nat.le_of_ble_eq_true rfl)]
  unfold cpI
  have x7 : ∀ Q, (h.sb c Q).mi (b + 7) = h.mi (b + 7) := fun Q => mi_sbo (by omega)
  have x8 : ∀ Q, (h.sb c Q).mi (b + 8) = h.mi (b + 8) := fun Q => mi_sbo (by omega)
  have x9 : ∀ Q, (h.sb c Q).mi (b + 9) = h.mi (b + 9) := fun Q => mi_sbo (by omega)
  have x10 : ∀ Q, (h.sb c Q).mi (b + 10) = h.mi (b + 10) := fun Q => mi_sbo (by omega)
  have x11 : ∀ Q, (h.sb c Q).mi (b + 11) = h.mi (b + 11) := fun Q => mi_sbo (by omega)
  have x12 : ∀ Q, (h.sb c Q).mi (b + 12) = h.mi (b + 12) := fun Q => mi_sbo (by omega)
  have y8 : cpOk h (b + 8) (c + 8) (n) := cpOk_i (st_k8 Tb) (st_k8 Tc) (by omega) (by omega) (by omega)
  have y9 : cpOk h (b + 9) (c + 9) (n) := cpOk_i (st_k9 Tb) (st_k9 Tc) (by omega) (by omega) (by omega)
  have y10 : cpOk h (b + 10) (c + 10) (n) := cpOk_i (st_k10 Tb) (st_k10 Tc) (by omega) (by omega) (by omega)
  have y11 : cpOk h (b + 11) (c + 11) (n) := cpOk_i (st_k11 Tb) (st_k11 Tc) (by omega) (by omega) (by omega)
  have y12 : cpOk h (b + 12) (c + 12) (n * 4) := cpOk_i (st_k12 Tb) (st_k12 Tc) (by omega) (by omega) (by omega)
  have u1 : ∀ Q g, zu2 (zu Q 7 (upto 1 (h.mi (b + 7)) g)) 7 1 (h.mi (b + 7) 1) = zu Q 7 (upto 2 (h.mi (b + 7)) g) := fun Q g => up_s
  have w0 : ∀ g, upto 2 (h.mi (b + 7)) g 0 = Int32.ofNat n := fun g => (up_lt (by decide)).trans hb
  have n7_8 : (7 : Nat) ≠ 8 := by decide
  have n7_9 : (7 : Nat) ≠ 9 := by decide
  have n7_10 : (7 : Nat) ≠ 10 := by decide
  have n7_11 : (7 : Nat) ≠ 11 := by decide
  have n7_12 : (7 : Nat) ≠ 12 := by decide
  have n8_7 : (8 : Nat) ≠ 7 := by decide
  have n8_9 : (8 : Nat) ≠ 9 := by decide
  have n8_10 : (8 : Nat) ≠ 10 := by decide
  have n8_11 : (8 : Nat) ≠ 11 := by decide
  have n8_12 : (8 : Nat) ≠ 12 := by decide
  have n9_7 : (9 : Nat) ≠ 7 := by decide
  have n9_8 : (9 : Nat) ≠ 8 := by decide
  have n9_10 : (9 : Nat) ≠ 10 := by decide
  have n9_11 : (9 : Nat) ≠ 11 := by decide
  have n9_12 : (9 : Nat) ≠ 12 := by decide
  have n10_7 : (10 : Nat) ≠ 7 := by decide
  have n10_8 : (10 : Nat) ≠ 8 := by decide
  have n10_9 : (10 : Nat) ≠ 9 := by decide
  have n10_11 : (10 : Nat) ≠ 11 := by decide
  have n10_12 : (10 : Nat) ≠ 12 := by decide
  have n11_7 : (11 : Nat) ≠ 7 := by decide
  have n11_8 : (11 : Nat) ≠ 8 := by decide
  have n11_9 : (11 : Nat) ≠ 9 := by decide
  have n11_10 : (11 : Nat) ≠ 10 := by decide
  have n11_12 : (11 : Nat) ≠ 12 := by decide
  have n12_7 : (12 : Nat) ≠ 7 := by decide
  have n12_8 : (12 : Nat) ≠ 8 := by decide
  have n12_9 : (12 : Nat) ≠ 9 := by decide
  have n12_10 : (12 : Nat) ≠ 10 := by decide
  have n12_11 : (12 : Nat) ≠ 11 := by decide
  simp -implicitDefEqProofs only [D_307_0, k_307_0, R_307, v_aload_n, g_getfield, sv_i, rf_s, g_put_i, sv_a, g_iconst, v_cpy, g_imul, g_return, entL, getL, setL, kL_i, kL_r, isI_s, isR_s, isJ_s, gV_s, iV_i, cs0, cs1, cs2, cs3, cs4, dn_nil, kd_si, kd_sl, kd_sw, mr_si, mr_sl, mr_sw, ml_si, ml_sw, mi_sl, st_k Tb, st_r6 Tb, st_r7 Tb, st_r8 Tb, st_r9 Tb, st_r10 Tb, st_r11 Tb, st_r12 Tb, st_r13 Tb, st_k1 Tb, st_k2 Tb, st_k3 Tb, st_k4 Tb, st_k5 Tb, st_k6 Tb, st_ki Tb, st_i2 Tb, st_i3 Tb, st_i4 Tb, st_i5 Tb, st_i6 Tb, st_k8 Tb, st_k9 Tb, st_k10 Tb, st_k11 Tb, st_k12 Tb, st_kb Tb, st_b2 Tb, st_b3 Tb, st_b4 Tb, st_b5 Tb, st_b6 Tb, st_k14 Tb, st_k15 Tb, st_k16 Tb, st_k17 Tb, st_k18 Tb, st_k Tc, st_r6 Tc, st_r7 Tc, st_r8 Tc, st_r9 Tc, st_r10 Tc, st_r11 Tc, st_r12 Tc, st_r13 Tc, st_k1 Tc, st_k2 Tc, st_k3 Tc, st_k4 Tc, st_k5 Tc, st_k6 Tc, st_ki Tc, st_i2 Tc, st_i3 Tc, st_i4 Tc, st_i5 Tc, st_i6 Tc, st_k8 Tc, st_k9 Tc, st_k10 Tc, st_k11 Tc, st_k12 Tc, st_kb Tc, st_b2 Tc, st_b3 Tc, st_b4 Tc, st_b5 Tc, st_b6 Tc, st_k14 Tc, st_k15 Tc, st_k16 Tc, st_k17 Tc, st_k18 Tc, kd_sb, mr_sb, ml_sb, bm_0, bm_1, bm_2, bm_3, bm_4, bm_5, bm_6, bm_7, bm_8, bm_9, bm_10, bm_11, bm_12, bm_13, bm_14, bm_15, bm_16, bm_17, bm_18, bs_0, bs_1, bs_2, bs_3, bs_4, bs_5, bs_6, bs_7, bs_8, bs_9, bs_10, bs_11, bs_12, bs_13, bs_14, bs_15, bs_16, bs_17, bs_18, x7, x8, x9, x10, x11, x12, y8, y9, y10, y11, y12, up_1 (f := h.mi (b + 7)), u1, w0, cpOk_sb, zu_same, bw_8, bw_9, bw_10, bw_11, bw_12, zu_o n7_8, zu_o n7_9, zu_o n7_10, zu_o n7_11, zu_o n7_12, zu_o n8_7, zu_o n8_9, zu_o n8_10, zu_o n8_11, zu_o n8_12, zu_o n9_7, zu_o n9_8, zu_o n9_10, zu_o n9_11, zu_o n9_12, zu_o n10_7, zu_o n10_8, zu_o n10_9, zu_o n10_11, zu_o n10_12, zu_o n11_7, zu_o n11_8, zu_o n11_9, zu_o n11_10, zu_o n11_12, zu_o n12_7, zu_o n12_8, zu_o n12_9, zu_o n12_10, zu_o n12_11, rm_4]
theorem R_249 : PG.2.1 249 = none := rfl
def cpS (b : Nat) (h : Mm) (Q : Nat → Nat → Int32) : Nat → Nat → Int32 := zu (zu (zu (zu (zu (zu (zu Q 0 (upto 6 (h.mi b) (Q 0))) 1 (upto (10) (h.mi (b + 1)) (Q 1))) 2 (upto (4) (h.mi (b + 2)) (Q 2))) 3 (upto (4) (h.mi (b + 3)) (Q 3))) 4 (upto (4) (h.mi (b + 4)) (Q 4))) 5 (upto (4) (h.mi (b + 5)) (Q 5))) 6 (upto (12) (h.mi (b + 6)) (Q 6))
theorem m_249c {b c n m : Nat} (hm : m ≤ 80) (hn : n ≤ 80) (hbc : b + 19 ≤ c ∨ c + 19 ≤ b) {h : Mm} (Tb : ST h b) (Tc : ST h c) {Q : Nat → Nat → Int32} (h7 : h.mi (b + 7) 0 = Int32.ofNat n) (h13 : h.mi (b + 13) 0 = Int32.ofNat m) : dM PG 249 [.ref c, .ref b] (h.sb c Q) = some (.inl none, h.sb c (cpB m b h (cpI n b h (cpS b h Q)))) := by
  rw [dM_of (Nat.le_of_ble_eq_true rfl)]
  unfold cpS
  have l10 : (10 : Int32) = Int32.ofNat 10 := rfl
  have l4 : (4 : Int32) = Int32.ofNat 4 := rfl
  have x0 : ∀ Q, (h.sb c Q).mi b = h.mi b := fun Q => mi_sbo (by omega)
  have x1 : ∀ Q, (h.sb c Q).mi (b + 1) = h.mi (b + 1) := fun Q => mi_sbo (by omega)
  have x2 : ∀ Q, (h.sb c Q).mi (b + 2) = h.mi (b + 2) := fun Q => mi_sbo (by omega)
  have x3 : ∀ Q, (h.sb c Q).mi (b + 3) = h.mi (b + 3) := fun Q => mi_sbo (by omega)
  have x4 : ∀ Q, (h.sb c Q).mi (b + 4) = h.mi (b + 4) := fun Q => mi_sbo (by omega)
  have x5 : ∀ Q, (h.sb c Q).mi (b + 5) = h.mi (b + 5) := fun Q => mi_sbo (by omega)
  have x6 : ∀ Q, (h.sb c Q).mi (b + 6) = h.mi (b + 6) := fun Q => mi_sbo (by omega)
  have y1 : cpOk h (b + 1) (c + 1) (10) := cpOk_i (st_k1 Tb) (st_k1 Tc) (by omega) (by omega) (by omega)
  have y2 : cpOk h (b + 2) (c + 2) (4) := cpOk_i (st_k2 Tb) (st_k2 Tc) (by omega) (by omega) (by omega)
  have y3 : cpOk h (b + 3) (c + 3) (4) := cpOk_i (st_k3 Tb) (st_k3 Tc) (by omega) (by omega) (by omega)
  have y4 : cpOk h (b + 4) (c + 4) (4) := cpOk_i (st_k4 Tb) (st_k4 Tc) (by omega) (by omega) (by omega)
  have y5 : cpOk h (b + 5) (c + 5) (4) := cpOk_i (st_k5 Tb) (st_k5 Tc) (by omega) (by omega) (by omega)
  have y6 : cpOk h (b + 6) (c + 6) (12) := cpOk_i (st_k6 Tb) (st_k6 Tc) (by omega) (by omega) (by omega)
  have u1 : ∀ Q g, zu2 (zu Q 0 (upto 1 (h.mi b) g)) 0 1 (h.mi b 1) = zu Q 0 (upto 2 (h.mi b) g) := fun Q g => up_s
  have u2 : ∀ Q g, zu2 (zu Q 0 (upto 2 (h.mi b) g)) 0 2 (h.mi b 2) = zu Q 0 (upto 3 (h.mi b) g) := fun Q g => up_s
  have u3 : ∀ Q g, zu2 (zu Q 0 (upto 3 (h.mi b) g)) 0 3 (h.mi b 3) = zu Q 0 (upto 4 (h.mi b) g) := fun Q g => up_s
  have u4 : ∀ Q g, zu2 (zu Q 0 (upto 4 (h.mi b) g)) 0 4 (h.mi b 4) = zu Q 0 (upto 5 (h.mi b) g) := fun Q g => up_s
  have u5 : ∀ Q g, zu2 (zu Q 0 (upto 5 (h.mi b) g)) 0 5 (h.mi b 5) = zu Q 0 (upto 6 (h.mi b) g) := fun Q g => up_s
  have w0 : ∀ g, upto 6 (h.mi b) g 0 = h.mi b 0 := fun g => up_lt (by decide)
  have n0_1 : (0 : Nat) ≠ 1 := by decide
  have n0_2 : (0 : Nat) ≠ 2 := by decide
  have n0_3 : (0 : Nat) ≠ 3 := by decide
  have n0_4 : (0 : Nat) ≠ 4 := by decide
  have n0_5 : (0 : Nat) ≠ 5 := by decide
  have n0_6 : (0 : Nat) ≠ 6 := by decide
  have n1_0 : (1 : Nat) ≠ 0 := by decide
  have n1_2 : (1 : Nat) ≠ 2 := by decide
  have n1_3 : (1 : Nat) ≠ 3 := by decide
  have n1_4 : (1 : Nat) ≠ 4 := by decide
  have n1_5 : (1 : Nat) ≠ 5 := by decide
  have n1_6 : (1 : Nat) ≠ 6 := by decide
  have n2_0 : (2 : Nat) ≠ 0 := by decide
  have n2_1 : (2 : Nat) ≠ 1 := by decide
  have n2_3 : (2 : Nat) ≠ 3 := by decide
  have n2_4 : (2 : Nat) ≠ 4 := by decide
  have n2_5 : (2 : Nat) ≠ 5 := by decide
  have n2_6 : (2 : Nat) ≠ 6 := by decide
  have n3_0 : (3 : Nat) ≠ 0 := by decide
  have n3_1 : (3 : Nat) ≠ 1 := by decide
  have n3_2 : (3 : Nat) ≠ 2 := by decide
  have n3_4 : (3 : Nat) ≠ 4 := by decide
  have n3_5 : (3 : Nat) ≠ 5 := by decide
  have n3_6 : (3 : Nat) ≠ 6 := by decide
  have n4_0 : (4 : Nat) ≠ 0 := by decide
  have n4_1 : (4 : Nat) ≠ 1 := by decide
  have n4_2 : (4 : Nat) ≠ 2 := by decide
  have n4_3 : (4 : Nat) ≠ 3 := by decide
  have n4_5 : (4 : Nat) ≠ 5 := by decide
  have n4_6 : (4 : Nat) ≠ 6 := by decide
  have n5_0 : (5 : Nat) ≠ 0 := by decide
  have n5_1 : (5 : Nat) ≠ 1 := by decide
  have n5_2 : (5 : Nat) ≠ 2 := by decide
  have n5_3 : (5 : Nat) ≠ 3 := by decide
  have n5_4 : (5 : Nat) ≠ 4 := by decide
  have n5_6 : (5 : Nat) ≠ 6 := by decide
  have n6_0 : (6 : Nat) ≠ 0 := by decide
  have n6_1 : (6 : Nat) ≠ 1 := by decide
  have n6_2 : (6 : Nat) ≠ 2 := by decide
  have n6_3 : (6 : Nat) ≠ 3 := by decide
  have n6_4 : (6 : Nat) ≠ 4 := by decide
  have n6_5 : (6 : Nat) ≠ 5 := by decide
  simp -implicitDefEqProofs only [D_249_0, k_249_0, R_249, v_aload_n, g_getfield, sv_i, rf_s, g_put_i, sv_a, g_iconst, g_bipush, v_cpy, v_alen, isA_0, lnA_0, sv_o, v_callV2, aft_v, aft_n, g_return, entL, getL, setL, kL_i, kL_r, isI_s, isR_s, isJ_s, gV_s, iV_i, cs0, cs1, cs2, cs3, cs4, dn_nil, kd_si, kd_sl, kd_sw, mr_si, mr_sl, mr_sw, ml_si, ml_sw, mi_sl, st_k Tb, st_r6 Tb, st_r7 Tb, st_r8 Tb, st_r9 Tb, st_r10 Tb, st_r11 Tb, st_r12 Tb, st_r13 Tb, st_k1 Tb, st_k2 Tb, st_k3 Tb, st_k4 Tb, st_k5 Tb, st_k6 Tb, st_ki Tb, st_i2 Tb, st_i3 Tb, st_i4 Tb, st_i5 Tb, st_i6 Tb, st_k8 Tb, st_k9 Tb, st_k10 Tb, st_k11 Tb, st_k12 Tb, st_kb Tb, st_b2 Tb, st_b3 Tb, st_b4 Tb, st_b5 Tb, st_b6 Tb, st_k14 Tb, st_k15 Tb, st_k16 Tb, st_k17 Tb, st_k18 Tb, st_k Tc, st_r6 Tc, st_r7 Tc, st_r8 Tc, st_r9 Tc, st_r10 Tc, st_r11 Tc, st_r12 Tc, st_r13 Tc, st_k1 Tc, st_k2 Tc, st_k3 Tc, st_k4 Tc, st_k5 Tc, st_k6 Tc, st_ki Tc, st_i2 Tc, st_i3 Tc, st_i4 Tc, st_i5 Tc, st_i6 Tc, st_k8 Tc, st_k9 Tc, st_k10 Tc, st_k11 Tc, st_k12 Tc, st_kb Tc, st_b2 Tc, st_b3 Tc, st_b4 Tc, st_b5 Tc, st_b6 Tc, st_k14 Tc, st_k15 Tc, st_k16 Tc, st_k17 Tc, st_k18 Tc, kd_sb, mr_sb, ml_sb, bm_0, bm_1, bm_2, bm_3, bm_4, bm_5, bm_6, bm_7, bm_8, bm_9, bm_10, bm_11, bm_12, bm_13, bm_14, bm_15, bm_16, bm_17, bm_18, bs_0, bs_1, bs_2, bs_3, bs_4, bs_5, bs_6, bs_7, bs_8, bs_9, bs_10, bs_11, bs_12, bs_13, bs_14, bs_15, bs_16, bs_17, bs_18, x0, x1, x2, x3, x4, x5, x6, y1, y2, y3, y4, y5, y6, up_1 (f := h.mi b), u1, u2, u3, u4, u5, w0, cpOk_sb, zu_same, bw_1, bw_2, bw_3, bw_4, bw_5, bw_6, zu_o n0_1, zu_o n0_2, zu_o n0_3, zu_o n0_4, zu_o n0_5, zu_o n0_6, zu_o n1_0, zu_o n1_2, zu_o n1_3, zu_o n1_4, zu_o n1_5, zu_o n1_6, zu_o n2_0, zu_o n2_1, zu_o n2_3, zu_o n2_4, zu_o n2_5, zu_o n2_6, zu_o n3_0, zu_o n3_1, zu_o n3_2, zu_o n3_4, zu_o n3_5, zu_o n3_6, zu_o n4_0, zu_o n4_1, zu_o n4_2, zu_o n4_3, zu_o n4_5, zu_o n4_6, zu_o n5_0, zu_o n5_1, zu_o n5_2, zu_o n5_3, zu_o n5_4, zu_o n5_6, zu_o n6_0, zu_o n6_1, zu_o n6_2, zu_o n6_3, zu_o n6_4, zu_o n6_5, l10, l4, m_307 hn hbc Tb Tc h7, m_308 hm hbc Tb Tc h13]
theorem cpR_eq {b n m : Nat} {h : Mm} {Q : Nat → Nat → Int32} : cpB m b h (cpI n b h (cpS b h Q)) = cpR n m (rowsAt h b) Q := by
  funext o
  have : o = 0 ∨ o = 1 ∨ o = 2 ∨ o = 3 ∨ o = 4 ∨ o = 5 ∨ o = 6 ∨ o = 7 ∨ o = 8 ∨ o = 9 ∨ o = 10 ∨ o = 11 ∨ o = 12 ∨ o = 13 ∨ o = 14 ∨ o = 15 ∨ o = 16 ∨ o = 17 ∨ o = 18 ∨ 19 ≤ o := by omega
  unfold cpB cpI cpS cpR
  rcases this with rfl | rfl | rfl | rfl | rfl | rfl | rfl | rfl | rfl | rfl | rfl | rfl | rfl | rfl | rfl | rfl | rfl | rfl | rfl | ho
  iterate 19 rfl
  have z : lims n m o = 0 := by
    unfold lims
    split <;> first | omega | rfl
  rw [z]
  have e : upto 0 (rowsAt h b o) (Q o) = Q o := by
    funext k; unfold upto; rw [if_neg (by omega)]
  rw [e]
  repeat rw [zu_o (by omega)]
theorem m_249 {b c n m : Nat} (hm : m ≤ 80) (hn : n ≤ 80) (hbc : b + 19 ≤ c ∨ c + 19 ≤ b) {h : Mm} (Tb : ST h b) (Tc : ST h c) {Q : Nat → Nat → Int32} (h7 : h.mi (b + 7) 0 = Int32.ofNat n) (h13 : h.mi (b + 13) 0 = Int32.ofNat m) : dM PG 249 [.ref c, .ref b] (h.sb c Q) = some (.inl none, h.sb c (cpR n m (rowsAt h b) Q)) := by
  rw [m_249c hm hn hbc Tb Tc h7 h13, cpR_eq]
theorem R_272 : PG.2.1 272 = none := rfl
theorem m_272 {u d b c n m : Nat} (hm : m ≤ 80) (hn : n ≤ 80) (hbc : b + 19 ≤ c ∨ c + 19 ≤ b) {h : Mm} (G : GO h u d b c) (Tb : ST h b) (Tc : ST h c) {Q : Nat → Nat → Int32} (h7 : h.mi (b + 7) 0 = Int32.ofNat n) (h13 : h.mi (b + 13) 0 = Int32.ofNat m) : dM PG 272 [.ref 200] (h.sb c Q) = some (.inl none, h.sb c (cpR n m (rowsAt h b) Q)) := by
  rw [dM_of (Nat.le_of_ble_eq_true rfl)]
  simp -implicitDefEqProofs only [D_272_0, k_272_0, R_272, v_aload_n, g_getfield, sv_o, rf_s, v_callV2, aft_v, aft_n, g_return, entL, getL, setL, kL_i, kL_r, isI_s, isR_s, isJ_s, gV_s, iV_i, cs0, cs1, cs2, cs3, cs4, dn_nil, kd_si, kd_sl, kd_sw, mr_si, mr_sl, mr_sw, ml_si, ml_sw, mi_sl, go_k G, go_r0 G, go_r5 G, go_r6 G, go_r7 G, go_r8 G, go_r10 G, go_r12 G, go_r13 G, go_r14 G, go_k201 G, go_k273 G, go_k274 G, go_k276 G, kd_sb, mr_sb, st_k Tc, m_249 hm hn hbc Tb Tc h7 h13]
