-- ===== a state's rows (19 cells from b on), replaced at once =====
def Mm.sb (h : Mm) (b : Nat) (R : Nat → Nat → Int32) : Mm := (h.1, h.2.1, fun a => if b ≤ a ∧ a < b + 19 then R (a - b) else h.mi a, h.ml, h.mr)
theorem kd_sb {h : Mm} {b : Nat} {R : Nat → Nat → Int32} : (h.sb b R).kd = h.kd := rfl
theorem mr_sb {h : Mm} {b : Nat} {R : Nat → Nat → Int32} : (h.sb b R).mr = h.mr := rfl
theorem ml_sb {h : Mm} {b : Nat} {R : Nat → Nat → Int32} : (h.sb b R).ml = h.ml := rfl
theorem mi_sb {h : Mm} {b o : Nat} {R : Nat → Nat → Int32} (ho : o < 19) : (h.sb b R).mi (b + o) = R o := by
  show (if b ≤ b + o ∧ b + o < b + 19 then R (b + o - b) else h.mi (b + o)) = R o
  rw [if_pos (by omega), Nat.add_sub_cancel_left]
theorem mi_sbo {h : Mm} {a b : Nat} {R : Nat → Nat → Int32} (ha : a < b ∨ b + 19 ≤ a) : (h.sb b R).mi a = h.mi a := by
  show (if b ≤ a ∧ a < b + 19 then R (a - b) else h.mi a) = h.mi a
  rw [if_neg (by omega)]
theorem si_sb {h : Mm} {b o k : Nat} {v : Int32} {R : Nat → Nat → Int32} (ho : o < 19) : (h.sb b R).si (b + o) k v = h.sb b (zu2 R o k v) := by
  show (h.1, h.2.1, zu2 (h.sb b R).mi (b + o) k v, h.ml, h.mr) = (h.1, h.2.1, (fun a => if b ≤ a ∧ a < b + 19 then zu2 R o k v (a - b) else h.mi a), h.ml, h.mr)
  have e : zu2 (h.sb b R).mi (b + o) k v = (fun a => if b ≤ a ∧ a < b + 19 then zu2 R o k v (a - b) else h.mi a) := by
    funext a
    unfold zu2
    by_cases c : a = b + o
    · subst c
      rw [if_pos rfl, if_pos (by omega), Nat.add_sub_cancel_left, if_pos rfl, mi_sb ho]
    · rw [if_neg c]
      by_cases c2 : b ≤ a ∧ a < b + 19
      · rw [if_pos c2, if_neg (by omega)]
        obtain ⟨q, rfl⟩ := Nat.exists_eq_add_of_le c2.1
        rw [mi_sb (by omega), Nat.add_sub_cancel_left]
      · rw [if_neg c2, mi_sbo (by omega)]
  rw [e]
def rowsAt (h : Mm) (b : Nat) : Nat → Nat → Int32 := fun o => h.mi (b + o)
theorem sb_id {h : Mm} {b : Nat} : h.sb b (rowsAt h b) = h := by
  show (h.1, h.2.1, (fun a => if b ≤ a ∧ a < b + 19 then h.mi (b + (a - b)) else h.mi a), h.ml, h.mr) = h
  have e : (fun a => if b ≤ a ∧ a < b + 19 then h.mi (b + (a - b)) else h.mi a) = h.mi := by
    funext a
    split
    · rename_i c; rw [Nat.add_sub_cancel' c.1]
    · rfl
  rw [e]; rfl
theorem sb_sb {h : Mm} {b : Nat} {R R' : Nat → Nat → Int32} : (h.sb b R).sb b R' = h.sb b R' := by
  show (h.1, h.2.1, (fun a => if b ≤ a ∧ a < b + 19 then R' (a - b) else (h.sb b R).mi a), h.ml, h.mr) = (h.1, h.2.1, (fun a => if b ≤ a ∧ a < b + 19 then R' (a - b) else h.mi a), h.ml, h.mr)
  have e : (fun a => if b ≤ a ∧ a < b + 19 then R' (a - b) else (h.sb b R).mi a) = (fun a => if b ≤ a ∧ a < b + 19 then R' (a - b) else h.mi a) := by
    funext a
    split
    · rfl
    · rename_i c; exact mi_sbo (by omega)
  rw [e]
theorem ST_sb {h : Mm} {a b : Nat} {R : Nat → Nat → Int32} (T : ST h a) : ST (h.sb b R) a := T
theorem SU_sb {h : Mm} {a b : Nat} {R : Nat → Nat → Int32} (T : SU h a) : SU (h.sb b R) a := T
theorem z2_s {α : Type} {R : Nat → Nat → α} {o k : Nat} {v : α} : zu2 R o k v o k = v := by
  unfold zu2 zu; rw [if_pos rfl, if_pos rfl]
theorem z2_k {α : Type} {R : Nat → Nat → α} {o k j : Nat} {v : α} (hj : j ≠ k) : zu2 R o k v o j = R o j := by
  unfold zu2 zu; rw [if_pos rfl, if_neg hj]
theorem z2_o {α : Type} {R : Nat → Nat → α} {o q k : Nat} {v : α} (hq : q ≠ o) : zu2 R o k v q = R q := by
  unfold zu2; rw [if_neg hq]
theorem bm_0 {h : Mm} {b : Nat} {R : Nat → Nat → Int32} : (h.sb b R).mi b = R 0 := mi_sb (o := 0) (by decide)
theorem bs_0 {h : Mm} {b k : Nat} {v : Int32} {R : Nat → Nat → Int32} : (h.sb b R).si b k v = h.sb b (zu2 R 0 k v) := si_sb (o := 0) (by decide)
theorem bm_1 {h : Mm} {b : Nat} {R : Nat → Nat → Int32} : (h.sb b R).mi (b + 1) = R 1 := mi_sb (by decide)
theorem bs_1 {h : Mm} {b k : Nat} {v : Int32} {R : Nat → Nat → Int32} : (h.sb b R).si (b + 1) k v = h.sb b (zu2 R 1 k v) := si_sb (by decide)
theorem bm_2 {h : Mm} {b : Nat} {R : Nat → Nat → Int32} : (h.sb b R).mi (b + 2) = R 2 := mi_sb (by decide)
theorem bs_2 {h : Mm} {b k : Nat} {v : Int32} {R : Nat → Nat → Int32} : (h.sb b R).si (b + 2) k v = h.sb b (zu2 R 2 k v) := si_sb (by decide)
theorem bm_3 {h : Mm} {b : Nat} {R : Nat → Nat → Int32} : (h.sb b R).mi (b + 3) = R 3 := mi_sb (by decide)
theorem bs_3 {h : Mm} {b k : Nat} {v : Int32} {R : Nat → Nat → Int32} : (h.sb b R).si (b + 3) k v = h.sb b (zu2 R 3 k v) := si_sb (by decide)
theorem bm_4 {h : Mm} {b : Nat} {R : Nat → Nat → Int32} : (h.sb b R).mi (b + 4) = R 4 := mi_sb (by decide)
theorem bs_4 {h : Mm} {b k : Nat} {v : Int32} {R : Nat → Nat → Int32} : (h.sb b R).si (b + 4) k v = h.sb b (zu2 R 4 k v) := si_sb (by decide)
theorem bm_5 {h : Mm} {b : Nat} {R : Nat → Nat → Int32} : (h.sb b R).mi (b + 5) = R 5 := mi_sb (by decide)
theorem bs_5 {h : Mm} {b k : Nat} {v : Int32} {R : Nat → Nat → Int32} : (h.sb b R).si (b + 5) k v = h.sb b (zu2 R 5 k v) := si_sb (by decide)
theorem bm_6 {h : Mm} {b : Nat} {R : Nat → Nat → Int32} : (h.sb b R).mi (b + 6) = R 6 := mi_sb (by decide)
theorem bs_6 {h : Mm} {b k : Nat} {v : Int32} {R : Nat → Nat → Int32} : (h.sb b R).si (b + 6) k v = h.sb b (zu2 R 6 k v) := si_sb (by decide)
theorem bm_7 {h : Mm} {b : Nat} {R : Nat → Nat → Int32} : (h.sb b R).mi (b + 7) = R 7 := mi_sb (by decide)
theorem bs_7 {h : Mm} {b k : Nat} {v : Int32} {R : Nat → Nat → Int32} : (h.sb b R).si (b + 7) k v = h.sb b (zu2 R 7 k v) := si_sb (by decide)
theorem bm_8 {h : Mm} {b : Nat} {R : Nat → Nat → Int32} : (h.sb b R).mi (b + 8) = R 8 := mi_sb (by decide)
theorem bs_8 {h : Mm} {b k : Nat} {v : Int32} {R : Nat → Nat → Int32} : (h.sb b R).si (b + 8) k v = h.sb b (zu2 R 8 k v) := si_sb (by decide)
theorem bm_9 {h : Mm} {b : Nat} {R : Nat → Nat → Int32} : (h.sb b R).mi (b + 9) = R 9 := mi_sb (by decide)
theorem bs_9 {h : Mm} {b k : Nat} {v : Int32} {R : Nat → Nat → Int32} : (h.sb b R).si (b + 9) k v = h.sb b (zu2 R 9 k v) := si_sb (by decide)
theorem bm_10 {h : Mm} {b : Nat} {R : Nat → Nat → Int32} : (h.sb b R).mi (b + 10) = R 10 := mi_sb (by decide)
theorem bs_10 {h : Mm} {b k : Nat} {v : Int32} {R : Nat → Nat → Int32} : (h.sb b R).si (b + 10) k v = h.sb b (zu2 R 10 k v) := si_sb (by decide)
theorem bm_11 {h : Mm} {b : Nat} {R : Nat → Nat → Int32} : (h.sb b R).mi (b + 11) = R 11 := mi_sb (by decide)
theorem bs_11 {h : Mm} {b k : Nat} {v : Int32} {R : Nat → Nat → Int32} : (h.sb b R).si (b + 11) k v = h.sb b (zu2 R 11 k v) := si_sb (by decide)
theorem bm_12 {h : Mm} {b : Nat} {R : Nat → Nat → Int32} : (h.sb b R).mi (b + 12) = R 12 := mi_sb (by decide)
theorem bs_12 {h : Mm} {b k : Nat} {v : Int32} {R : Nat → Nat → Int32} : (h.sb b R).si (b + 12) k v = h.sb b (zu2 R 12 k v) := si_sb (by decide)
theorem bm_13 {h : Mm} {b : Nat} {R : Nat → Nat → Int32} : (h.sb b R).mi (b + 13) = R 13 := mi_sb (by decide)
theorem bs_13 {h : Mm} {b k : Nat} {v : Int32} {R : Nat → Nat → Int32} : (h.sb b R).si (b + 13) k v = h.sb b (zu2 R 13 k v) := si_sb (by decide)
theorem bm_14 {h : Mm} {b : Nat} {R : Nat → Nat → Int32} : (h.sb b R).mi (b + 14) = R 14 := mi_sb (by decide)
theorem bs_14 {h : Mm} {b k : Nat} {v : Int32} {R : Nat → Nat → Int32} : (h.sb b R).si (b + 14) k v = h.sb b (zu2 R 14 k v) := si_sb (by decide)
theorem bm_15 {h : Mm} {b : Nat} {R : Nat → Nat → Int32} : (h.sb b R).mi (b + 15) = R 15 := mi_sb (by decide)
theorem bs_15 {h : Mm} {b k : Nat} {v : Int32} {R : Nat → Nat → Int32} : (h.sb b R).si (b + 15) k v = h.sb b (zu2 R 15 k v) := si_sb (by decide)
theorem bm_16 {h : Mm} {b : Nat} {R : Nat → Nat → Int32} : (h.sb b R).mi (b + 16) = R 16 := mi_sb (by decide)
theorem bs_16 {h : Mm} {b k : Nat} {v : Int32} {R : Nat → Nat → Int32} : (h.sb b R).si (b + 16) k v = h.sb b (zu2 R 16 k v) := si_sb (by decide)
theorem bm_17 {h : Mm} {b : Nat} {R : Nat → Nat → Int32} : (h.sb b R).mi (b + 17) = R 17 := mi_sb (by decide)
theorem bs_17 {h : Mm} {b k : Nat} {v : Int32} {R : Nat → Nat → Int32} : (h.sb b R).si (b + 17) k v = h.sb b (zu2 R 17 k v) := si_sb (by decide)
theorem bm_18 {h : Mm} {b : Nat} {R : Nat → Nat → Int32} : (h.sb b R).mi (b + 18) = R 18 := mi_sb (by decide)
theorem bs_18 {h : Mm} {b k : Nat} {v : Int32} {R : Nat → Nat → Int32} : (h.sb b R).si (b + 18) k v = h.sb b (zu2 R 18 k v) := si_sb (by decide)
theorem R_316 : PG.2.1 316 = (some .int) := rfl
theorem m_316 {u : Nat} {x : Int32} {h : Mm} (U : SU h u) : dM PG 316 [.ref u, .int x] h = some (.inl (some (.int ((x * h.mi u 3 + 99) / 100))), h) := by
  rw [dM_of (Nat.le_of_ble_eq_true rfl)]
  have z : ¬ (100 : Int32) = 0 := by decide
  simp -implicitDefEqProofs only [D_316_0, k_316_0, R_316, v_iload_n, v_aload_n, g_getfield, sv_i, rf_s, g_imul, g_bipush, g_iadd, g_idiv, g_ireturn, entL, getL, setL, kL_i, kL_r, isI_s, isR_s, isJ_s, gV_s, iV_i, cs0, cs1, cs2, cs3, cs4, dn_nil, kd_si, kd_sl, kd_sw, mr_si, mr_sl, mr_sw, ml_si, ml_sw, mi_sl, su_k U, if_neg z, retX_int]
-- the ice: boxes in their order from the first that waits
def gcA (R : Nat → Nat → Int32) (q : Nat) (per : Int32) : Nat → Nat → Int32 := zu2 R 0 3 (R 0 3 - (R 15 q * per + 99) / 100)
def gcB (R : Nat → Nat → Int32) (q : Nat) (per : Int32) : Nat → Nat → Int32 := zu2 (gcA R q per) 0 4 (gcA R q per 0 4 + (R 15 q * per + 99) / 100)
def gcC (R : Nat → Nat → Int32) (q : Nat) (per : Int32) : Nat → Nat → Int32 := zu2 (gcB R q per) 18 q (gcB R q per 0 0)
def gcD (R : Nat → Nat → Int32) (q : Nat) (per : Int32) : Nat → Nat → Int32 := zu2 (gcC R q per) 13 1 (gcC R q per 13 1 + 1)
def gcGo (per : Int32) : Nat → Nat → (Nat → Nat → Int32) → (Nat → Nat → Int32)
  | 0, _, R => R
  | d + 1, q, R => if (R 15 q * per + 99) / 100 ≤ R 0 3 then gcGo per d (q + 1) (gcD R q per) else R
theorem gcD_c {R : Nat → Nat → Int32} {q : Nat} {per : Int32} : gcD R q per 13 0 = R 13 0 := by
  unfold gcD gcC gcB gcA
  rw [z2_k (by decide), z2_o (by decide), z2_o (by decide), z2_o (by decide)]
theorem R_319 : PG.2.1 319 = none := rfl
theorem l_319 {u b n : Nat} (hub : u + 7 ≤ b) (hn : n ≤ 80) {h : Mm} (T : ST h b) (U : SU h u) : ∀ (d q : Nat) (R : Nat → Nat → Int32) (tl : Lc), q + d = n → R 13 0 = Int32.ofNat n → (tl = [] ∨ ∃ x : Int32, tl = [some (.int x)]) → dB PG 319 8 (some (.ref b) :: some (.ref u) :: some (.int (Int32.ofNat q)) :: tl) [] (h.sb b R) = some (.inl none, h.sb b (gcGo (h.mi u 3) d q R)) := by
  intro d
  induction d with
  | zero =>
    intro q R tl hq hR ht
    have e : Int32.ofNat n ≤ Int32.ofNat q := by rw [i32_le (by omega) (by omega)]; omega
    simp -implicitDefEqProofs only [D_319_8, k_319_8, D_319_94, k_319_94, R_319, v_iload_n, v_aload_n, g_getfield, sv_o, rf_s, sv_i, g_icmp_ge, sv_a, v_iaload, inI_0, v_callV2, aft_v, aft_n, g_istore_n, g_icmp_le, g_return, entL, getL, setL, kL_i, kL_r, isI_s, isR_s, isJ_s, gV_s, iV_i, cs0, cs1, cs2, cs3, cs4, dn_nil, kd_si, kd_sl, kd_sw, mr_si, mr_sl, mr_sw, ml_si, ml_sw, mi_sl, kd_sb, mr_sb, bm_13, st_k T, st_r13 T, st_kb T, hR, if_pos e]
    rfl
  | succ d ih =>
    intro q R tl hq hR ht
    have e : ¬ Int32.ofNat n ≤ Int32.ofNat q := by rw [i32_le (by omega) (by omega)]; omega
    have s1 : Int32.ofNat q + 1 = Int32.ofNat (q + 1) := i32_add (b := 1)
    have hu : (h.sb b R).mi u = h.mi u := mi_sbo (by omega)
    have g := m_316 (x := R 15 q) (SU_sb (b := b) (R := R) U)
    rw [hu] at g
    have b_1 : inb (Int32.ofNat (q)) 80 = true := inb_nat (by omega) (by decide)
    have n_1 : (Int32.ofNat (q)).toNatClampNeg = q := i32_nat (by omega)
    by_cases c : (R 15 q * h.mi u 3 + 99) / 100 ≤ R 0 3
    · have z : gcGo (h.mi u 3) (d + 1) q R = gcGo (h.mi u 3) d (q + 1) (gcD R q (h.mi u 3)) := if_pos c
      rw [z, ← ih (q + 1) (gcD R q (h.mi u 3)) [some (.int ((R 15 q * h.mi u 3 + 99) / 100))] (by omega) (by rw [gcD_c, hR]) (Or.inr ⟨_, rfl⟩), D_319_8]
      unfold gcD gcC gcB gcA
      rcases ht with rfl | ⟨x, rfl⟩
      · simp -implicitDefEqProofs only [k_319_8, D_319_42, k_319_42, R_319, v_iload_n, v_aload_n, g_getfield, sv_o, rf_s, sv_i, g_icmp_ge, sv_a, v_iaload, inI_0, v_callV2, aft_v, aft_n, g_istore_n, g_icmp_le, g_return, g_dup_i, g_dup_r, g_isub, g_put_i, g_iadd, v_iastore, wrI_0, g_iconst, v_iinc, g_goto, entL, getL, setL, kL_i, kL_r, isI_s, isR_s, isJ_s, gV_s, iV_i, cs0, cs1, cs2, cs3, cs4, dn_nil, kd_si, kd_sl, kd_sw, mr_si, mr_sl, mr_sw, ml_si, ml_sw, mi_sl, kd_sb, mr_sb, bm_0, bm_13, bm_15, bm_18, bs_0, bs_13, bs_18, st_k T, st_r13 T, st_kb T, st_b3 T, st_k15 T, st_b6 T, st_k18 T, su_k U, hR, if_neg e, b_1, n_1, g, if_pos c, s1]
      · simp -implicitDefEqProofs only [k_319_8, D_319_42, k_319_42, R_319, v_iload_n, v_aload_n, g_getfield, sv_o, rf_s, sv_i, g_icmp_ge, sv_a, v_iaload, inI_0, v_callV2, aft_v, aft_n, g_istore_n, g_icmp_le, g_return, g_dup_i, g_dup_r, g_isub, g_put_i, g_iadd, v_iastore, wrI_0, g_iconst, v_iinc, g_goto, entL, getL, setL, kL_i, kL_r, isI_s, isR_s, isJ_s, gV_s, iV_i, cs0, cs1, cs2, cs3, cs4, dn_nil, kd_si, kd_sl, kd_sw, mr_si, mr_sl, mr_sw, ml_si, ml_sw, mi_sl, kd_sb, mr_sb, bm_0, bm_13, bm_15, bm_18, bs_0, bs_13, bs_18, st_k T, st_r13 T, st_kb T, st_b3 T, st_k15 T, st_b6 T, st_k18 T, su_k U, hR, if_neg e, b_1, n_1, g, if_pos c, s1]
    · have z : gcGo (h.mi u 3) (d + 1) q R = R := if_neg c
      rw [z]
      rcases ht with rfl | ⟨x, rfl⟩
      · simp -implicitDefEqProofs only [D_319_8, k_319_8, D_319_42, k_319_42, R_319, v_iload_n, v_aload_n, g_getfield, sv_o, rf_s, sv_i, g_icmp_ge, sv_a, v_iaload, inI_0, v_callV2, aft_v, aft_n, g_istore_n, g_icmp_le, g_return, g_dup_i, g_dup_r, g_isub, g_put_i, g_iadd, v_iastore, wrI_0, g_iconst, v_iinc, g_goto, entL, getL, setL, kL_i, kL_r, isI_s, isR_s, isJ_s, gV_s, iV_i, cs0, cs1, cs2, cs3, cs4, dn_nil, kd_si, kd_sl, kd_sw, mr_si, mr_sl, mr_sw, ml_si, ml_sw, mi_sl, kd_sb, mr_sb, bm_0, bm_13, bm_15, st_k T, st_r13 T, st_kb T, st_b3 T, st_k15 T, su_k U, hR, if_neg e, b_1, n_1, g, if_neg c]
      · simp -implicitDefEqProofs only [D_319_8, k_319_8, D_319_42, k_319_42, R_319, v_iload_n, v_aload_n, g_getfield, sv_o, rf_s, sv_i, g_icmp_ge, sv_a, v_iaload, inI_0, v_callV2, aft_v, aft_n, g_istore_n, g_icmp_le, g_return, g_dup_i, g_dup_r, g_isub, g_put_i, g_iadd, v_iastore, wrI_0, g_iconst, v_iinc, g_goto, entL, getL, setL, kL_i, kL_r, isI_s, isR_s, isJ_s, gV_s, iV_i, cs0, cs1, cs2, cs3, cs4, dn_nil, kd_si, kd_sl, kd_sw, mr_si, mr_sl, mr_sw, ml_si, ml_sw, mi_sl, kd_sb, mr_sb, bm_0, bm_13, bm_15, st_k T, st_r13 T, st_kb T, st_b3 T, st_k15 T, su_k U, hR, if_neg e, b_1, n_1, g, if_neg c]
