-- ===== constructors =====
theorem sz_nw {h : Mm} {k : Kd} {n : Nat} : (h.nw k n).sz = h.sz + 1 := rfl
theorem sz_si {h : Mm} {a k : Nat} {v : Int32} : (h.si a k v).sz = h.sz := rfl
theorem sz_sr {h : Mm} {a k : Nat} {v : Option Nat} : (h.sr a k v).sz = h.sz := rfl
theorem kd_nw' {h : Mm} {k : Kd} {n : Nat} : (h.nw k n).kd = zu h.kd h.sz k := rfl
theorem mr_nw {h : Mm} {k : Kd} {n : Nat} : (h.nw k n).mr = zu h.mr h.sz (fun _ => none) := rfl
theorem mi_nw {h : Mm} {k : Kd} {n : Nat} : (h.nw k n).mi = zu h.mi h.sz (fun _ => 0) := rfl
theorem ml_nw {h : Mm} {k : Kd} {n : Nat} : (h.nw k n).ml = zu h.ml h.sz (fun _ => 0) := rfl
theorem mr_sr {h : Mm} {a k : Nat} {v : Option Nat} : (h.sr a k v).mr = zu2 h.mr a k v := rfl
theorem mi_si {h : Mm} {a k : Nat} {v : Int32} : (h.si a k v).mi = zu2 h.mi a k v := rfl
section NA
variable {P : Pg} {y fin nx a b w : Nat} {v : Value} {ty : FieldType} {rs : List Rw} {L : Lc} {st : List Value} {h : Mm} {t : ArrayType}
theorem nA_80 : dn P y ((.newarray t, nx, a, b, v, ty, w) :: rs) fin L (.int 80 :: st) h = dn P y rs fin L (.ref h.sz :: st) (h.nw (some (.inr (ty, 80))) 80) := g_newarray (n := 80) (by decide)
theorem nA_320 : dn P y ((.newarray t, nx, a, b, v, ty, w) :: rs) fin L (.int 320 :: st) h = dn P y rs fin L (.ref h.sz :: st) (h.nw (some (.inr (ty, 320))) 320) := g_newarray (n := 320) (by decide)
theorem nA_10 : dn P y ((.newarray t, nx, a, b, v, ty, w) :: rs) fin L (.int 10 :: st) h = dn P y rs fin L (.ref h.sz :: st) (h.nw (some (.inr (ty, 10))) 10) := g_newarray (n := 10) (by decide)
theorem nA_4 : dn P y ((.newarray t, nx, a, b, v, ty, w) :: rs) fin L (.int 4 :: st) h = dn P y rs fin L (.ref h.sz :: st) (h.nw (some (.inr (ty, 4))) 4) := g_newarray (n := 4) (by decide)
theorem nA_12 : dn P y ((.newarray t, nx, a, b, v, ty, w) :: rs) fin L (.int 12 :: st) h = dn P y rs fin L (.ref h.sz :: st) (h.nw (some (.inr (ty, 12))) 12) := g_newarray (n := 12) (by decide)
theorem nA_1500 : dn P y ((.newarray t, nx, a, b, v, ty, w) :: rs) fin L (.int 1500 :: st) h = dn P y rs fin L (.ref h.sz :: st) (h.nw (some (.inr (ty, 1500))) 1500) := g_newarray (n := 1500) (by decide)
theorem nA_26 : dn P y ((.newarray t, nx, a, b, v, ty, w) :: rs) fin L (.int 26 :: st) h = dn P y rs fin L (.ref h.sz :: st) (h.nw (some (.inr (ty, 26))) 26) := g_newarray (n := 26) (by decide)
theorem nA_1168 : dn P y ((.newarray t, nx, a, b, v, ty, w) :: rs) fin L (.int 1168 :: st) h = dn P y rs fin L (.ref h.sz :: st) (h.nw (some (.inr (ty, 1168))) 1168) := g_newarray (n := 1168) (by decide)
theorem nA_9344 : dn P y ((.newarray t, nx, a, b, v, ty, w) :: rs) fin L (.int 9344 :: st) h = dn P y rs fin L (.ref h.sz :: st) (h.nw (some (.inr (ty, 9344))) 9344) := g_newarray (n := 9344) (by decide)
theorem nA_300 : dn P y ((.newarray t, nx, a, b, v, ty, w) :: rs) fin L (.int 300 :: st) h = dn P y rs fin L (.ref h.sz :: st) (h.nw (some (.inr (ty, 300))) 300) := g_newarray (n := 300) (by decide)
theorem nA_16 : dn P y ((.newarray t, nx, a, b, v, ty, w) :: rs) fin L (.int 16 :: st) h = dn P y rs fin L (.ref h.sz :: st) (h.nw (some (.inr (ty, 16))) 16) := g_newarray (n := 16) (by decide)
theorem nA_1 : dn P y ((.newarray t, nx, a, b, v, ty, w) :: rs) fin L (.int 1 :: st) h = dn P y rs fin L (.ref h.sz :: st) (h.nw (some (.inr (ty, 1))) 1) := g_newarray (n := 1) (by decide)
theorem nO_8 {ix : Nat} : dn P y ((.anewarray ix, nx, a, b, v, ty, w) :: rs) fin L (.int 8 :: st) h = dn P y rs fin L (.ref h.sz :: st) (h.nw (some (.inr (ty, 8))) 8) := g_anewarray (n := 8) (by decide)
end NA
def cnI (h : Mm) (x : Nat) : Mm := ((((((((((((h).si x 0 0).si x 1 0).nw (some (.inr (.int, 80))) 80).sr x 2 (some (h.sz))).nw (some (.inr (.int, 80))) 80).sr x 3 (some (h.sz + 1))).nw (some (.inr (.int, 80))) 80).sr x 4 (some (h.sz + 2))).nw (some (.inr (.int, 80))) 80).sr x 5 (some (h.sz + 3))).nw (some (.inr (.int, 320))) 320).sr x 6 (some (h.sz + 4))
theorem R_231 : PG.2.1 231 = none := rfl
theorem m_231 {h : Mm} {x : Nat} (hx : x < h.sz) (hk : h.kd x = some (.inl 1)) : dM PG 231 [.ref x] h = some (.inl none, cnI h x) := by
  rw [dM_of (Nat.le_of_ble_eq_true rfl)]
  have e1 : ∀ (q0 : Kd), zu (h.kd) (h.sz) q0 x = some (.inl 1) := fun q0 => by rw [zu_o (by omega), hk]
  have e2 : ∀ (q0 q1 : Kd), zu (zu (h.kd) (h.sz) q0) (h.sz + 1) q1 x = some (.inl 1) := fun q0 q1 => by rw [zu_o (by omega), e1]
  have e3 : ∀ (q0 q1 q2 : Kd), zu (zu (zu (h.kd) (h.sz) q0) (h.sz + 1) q1) (h.sz + 1 + 1) q2 x = some (.inl 1) := fun q0 q1 q2 => by rw [zu_o (by omega), e2]
  have e4 : ∀ (q0 q1 q2 q3 : Kd), zu (zu (zu (zu (h.kd) (h.sz) q0) (h.sz + 1) q1) (h.sz + 1 + 1) q2) (h.sz + 1 + 1 + 1) q3 x = some (.inl 1) := fun q0 q1 q2 q3 => by rw [zu_o (by omega), e3]
  have e5 : ∀ (q0 q1 q2 q3 q4 : Kd), zu (zu (zu (zu (zu (h.kd) (h.sz) q0) (h.sz + 1) q1) (h.sz + 1 + 1) q2) (h.sz + 1 + 1 + 1) q3) (h.sz + 1 + 1 + 1 + 1) q4 x = some (.inl 1) := fun q0 q1 q2 q3 q4 => by rw [zu_o (by omega), e4]
  simp -implicitDefEqProofs only [D_231_0, k_231_0, R_231, v_aload_n, g_obj, g_iconst, g_put_i, g_bipush, g_put_a, g_sipush, g_return, entL, getL, setL, kL_i, kL_r, isI_s, isR_s, isJ_s, gV_s, iV_i, cs0, cs1, cs2, cs3, cs4, dn_nil, kd_si, kd_sl, kd_sw, mr_si, mr_sl, mr_sw, ml_si, ml_sw, mi_sl, nA_80, nA_320, nA_10, nA_4, nA_12, nA_1500, nA_26, nA_1168, nA_9344, nA_300, nA_16, nA_1, nO_8, sz_nw, sz_si, sz_sr, kd_nw', kd_sr, hk, e1, e2, e3, e4, e5]
  rfl
theorem sz_cnI {h : Mm} {x : Nat} : (cnI h x).sz = h.sz + 5 := rfl
theorem kd_cnI {h : Mm} {x a : Nat} (ha : a < h.sz) : (cnI h x).kd a = h.kd a := (zu_o (by show a ≠ h.sz + 4; omega)).trans ((zu_o (by show a ≠ h.sz + 3; omega)).trans ((zu_o (by show a ≠ h.sz + 2; omega)).trans ((zu_o (by show a ≠ h.sz + 1; omega)).trans (zu_o (by show a ≠ h.sz; omega)))))
def cnB (h : Mm) (x : Nat) : Mm := ((((((((((((h).si x 0 0).si x 1 0).nw (some (.inr (.int, 80))) 80).sr x 2 (some (h.sz))).nw (some (.inr (.int, 80))) 80).sr x 3 (some (h.sz + 1))).nw (some (.inr (.int, 80))) 80).sr x 4 (some (h.sz + 2))).nw (some (.inr (.int, 80))) 80).sr x 5 (some (h.sz + 3))).nw (some (.inr (.int, 80))) 80).sr x 6 (some (h.sz + 4))
theorem R_232 : PG.2.1 232 = none := rfl
theorem m_232 {h : Mm} {x : Nat} (hx : x < h.sz) (hk : h.kd x = some (.inl 0)) : dM PG 232 [.ref x] h = some (.inl none, cnB h x) := by
  rw [dM_of (Nat.le_of_ble_eq_true rfl)]
  have e1 : ∀ (q0 : Kd), zu (h.kd) (h.sz) q0 x = some (.inl 0) := fun q0 => by rw [zu_o (by omega), hk]
  have e2 : ∀ (q0 q1 : Kd), zu (zu (h.kd) (h.sz) q0) (h.sz + 1) q1 x = some (.inl 0) := fun q0 q1 => by rw [zu_o (by omega), e1]
  have e3 : ∀ (q0 q1 q2 : Kd), zu (zu (zu (h.kd) (h.sz) q0) (h.sz + 1) q1) (h.sz + 1 + 1) q2 x = some (.inl 0) := fun q0 q1 q2 => by rw [zu_o (by omega), e2]
  have e4 : ∀ (q0 q1 q2 q3 : Kd), zu (zu (zu (zu (h.kd) (h.sz) q0) (h.sz + 1) q1) (h.sz + 1 + 1) q2) (h.sz + 1 + 1 + 1) q3 x = some (.inl 0) := fun q0 q1 q2 q3 => by rw [zu_o (by omega), e3]
  have e5 : ∀ (q0 q1 q2 q3 q4 : Kd), zu (zu (zu (zu (zu (h.kd) (h.sz) q0) (h.sz + 1) q1) (h.sz + 1 + 1) q2) (h.sz + 1 + 1 + 1) q3) (h.sz + 1 + 1 + 1 + 1) q4 x = some (.inl 0) := fun q0 q1 q2 q3 q4 => by rw [zu_o (by omega), e4]
  simp -implicitDefEqProofs only [D_232_0, k_232_0, R_232, v_aload_n, g_obj, g_iconst, g_put_i, g_bipush, g_put_a, g_return, entL, getL, setL, kL_i, kL_r, isI_s, isR_s, isJ_s, gV_s, iV_i, cs0, cs1, cs2, cs3, cs4, dn_nil, kd_si, kd_sl, kd_sw, mr_si, mr_sl, mr_sw, ml_si, ml_sw, mi_sl, nA_80, nA_320, nA_10, nA_4, nA_12, nA_1500, nA_26, nA_1168, nA_9344, nA_300, nA_16, nA_1, nO_8, sz_nw, sz_si, sz_sr, kd_nw', kd_sr, hk, e1, e2, e3, e4, e5]
  rfl
theorem sz_cnB {h : Mm} {x : Nat} : (cnB h x).sz = h.sz + 5 := rfl
theorem kd_cnB {h : Mm} {x a : Nat} (ha : a < h.sz) : (cnB h x).kd a = h.kd a := (zu_o (by show a ≠ h.sz + 4; omega)).trans ((zu_o (by show a ≠ h.sz + 3; omega)).trans ((zu_o (by show a ≠ h.sz + 2; omega)).trans ((zu_o (by show a ≠ h.sz + 1; omega)).trans (zu_o (by show a ≠ h.sz; omega)))))
def cnK (h : Mm) (x : Nat) : Mm := ((h.sr x 0 (some 0)).si x 1 0).si x 2 0
theorem R_230 : PG.2.1 230 = none := rfl
theorem m_230 {h : Mm} {x : Nat} (hk : h.kd x = some (.inl 2)) : dM PG 230 [.ref x] h = some (.inl none, cnK h x) := by
  rw [dM_of (Nat.le_of_ble_eq_true rfl)]
  simp -implicitDefEqProofs only [D_230_0, k_230_0, R_230, v_aload_n, g_obj, g_ldc, g_put_o, g_iconst, g_put_i, g_return, entL, getL, setL, kL_i, kL_r, isI_s, isR_s, isJ_s, gV_s, iV_i, cs0, cs1, cs2, cs3, cs4, dn_nil, kd_si, kd_sl, kd_sw, mr_si, mr_sl, mr_sw, ml_si, ml_sw, mi_sl, kd_sr, hk]
  rfl
theorem sz_cnK {h : Mm} {x : Nat} : (cnK h x).sz = h.sz := rfl
theorem kd_cnK {h : Mm} {x : Nat} : (cnK h x).kd = h.kd := rfl
def cnS (h : Mm) (x : Nat) : Mm := (cnB (((cnI ((((((((((((((((((((h).si x 0 0).si x 1 0).si x 2 0).si x 3 0).si x 4 0).si x 5 0).nw (some (.inr (.int, 10))) 10).sr x 6 (some (h.sz))).nw (some (.inr (.int, 4))) 4).sr x 7 (some (h.sz + 1))).nw (some (.inr (.int, 4))) 4).sr x 8 (some (h.sz + 2))).nw (some (.inr (.int, 4))) 4).sr x 9 (some (h.sz + 3))).nw (some (.inr (.int, 4))) 4).sr x 10 (some (h.sz + 4))).nw (some (.inr (.int, 12))) 12).sr x 11 (some (h.sz + 5))).nw (some (.inl 1)) 7) (h.sz + 6)).sr x 12 (some (h.sz + 6))).nw (some (.inl 0)) 7) (h.sz + 12)).sr x 13 (some (h.sz + 12))
theorem R_133 : PG.2.1 133 = none := rfl
theorem m_133 {h : Mm} {x : Nat} (hx : x < h.sz) (hk : h.kd x = some (.inl 5)) : dM PG 133 [.ref x] h = some (.inl none, cnS h x) := by
  rw [dM_of (Nat.le_of_ble_eq_true rfl)]
  have e1 : ∀ (q0 : Kd), zu (h.kd) (h.sz) q0 x = some (.inl 5) := fun q0 => by rw [zu_o (by omega), hk]
  have e2 : ∀ (q0 q1 : Kd), zu (zu (h.kd) (h.sz) q0) (h.sz + 1) q1 x = some (.inl 5) := fun q0 q1 => by rw [zu_o (by omega), e1]
  have e3 : ∀ (q0 q1 q2 : Kd), zu (zu (zu (h.kd) (h.sz) q0) (h.sz + 1) q1) (h.sz + 1 + 1) q2 x = some (.inl 5) := fun q0 q1 q2 => by rw [zu_o (by omega), e2]
  have e4 : ∀ (q0 q1 q2 q3 : Kd), zu (zu (zu (zu (h.kd) (h.sz) q0) (h.sz + 1) q1) (h.sz + 1 + 1) q2) (h.sz + 1 + 1 + 1) q3 x = some (.inl 5) := fun q0 q1 q2 q3 => by rw [zu_o (by omega), e3]
  have e5 : ∀ (q0 q1 q2 q3 q4 : Kd), zu (zu (zu (zu (zu (h.kd) (h.sz) q0) (h.sz + 1) q1) (h.sz + 1 + 1) q2) (h.sz + 1 + 1 + 1) q3) (h.sz + 1 + 1 + 1 + 1) q4 x = some (.inl 5) := fun q0 q1 q2 q3 q4 => by rw [zu_o (by omega), e4]
  have e6 : ∀ (q0 q1 q2 q3 q4 q5 : Kd), zu (zu (zu (zu (zu (zu (h.kd) (h.sz) q0) (h.sz + 1) q1) (h.sz + 1 + 1) q2) (h.sz + 1 + 1 + 1) q3) (h.sz + 1 + 1 + 1 + 1) q4) (h.sz + 1 + 1 + 1 + 1 + 1) q5 x = some (.inl 5) := fun q0 q1 q2 q3 q4 q5 => by rw [zu_o (by omega), e5]
  have e7 : ∀ (q0 q1 q2 q3 q4 q5 q6 : Kd), zu (zu (zu (zu (zu (zu (zu (h.kd) (h.sz) q0) (h.sz + 1) q1) (h.sz + 1 + 1) q2) (h.sz + 1 + 1 + 1) q3) (h.sz + 1 + 1 + 1 + 1) q4) (h.sz + 1 + 1 + 1 + 1 + 1) q5) (h.sz + 1 + 1 + 1 + 1 + 1 + 1) q6 x = some (.inl 5) := fun q0 q1 q2 q3 q4 q5 q6 => by rw [zu_o (by omega), e6]
  have L1 : ∀ m : Mm, m.sz = h.sz + 1 + 1 + 1 + 1 + 1 + 1 + 1 → m.kd (h.sz + 1 + 1 + 1 + 1 + 1 + 1) = some (.inl 1) → dM PG 231 [.ref (h.sz + 1 + 1 + 1 + 1 + 1 + 1)] m = some (.inl none, cnI m (h.sz + 1 + 1 + 1 + 1 + 1 + 1)) := fun m a b => m_231 (by rw [a]; exact Nat.lt_add_one _) b
  have K1 : ∀ m : Mm, m.sz = h.sz + 1 + 1 + 1 + 1 + 1 + 1 + 1 → ∀ y, (cnI m y).kd x = m.kd x := fun m a y => kd_cnI (by rw [a]; omega)
  have L2 : ∀ m : Mm, m.sz = h.sz + 1 + 1 + 1 + 1 + 1 + 1 + 1 + 5 + 1 → m.kd (h.sz + 1 + 1 + 1 + 1 + 1 + 1 + 1 + 5) = some (.inl 0) → dM PG 232 [.ref (h.sz + 1 + 1 + 1 + 1 + 1 + 1 + 1 + 5)] m = some (.inl none, cnB m (h.sz + 1 + 1 + 1 + 1 + 1 + 1 + 1 + 5)) := fun m a b => m_232 (by rw [a]; exact Nat.lt_add_one _) b
  have K2 : ∀ m : Mm, m.sz = h.sz + 1 + 1 + 1 + 1 + 1 + 1 + 1 + 5 + 1 → ∀ y, (cnB m y).kd x = m.kd x := fun m a y => kd_cnB (by rw [a]; omega)
  have N2 : ∀ (f : Nat → Kd) (q : Kd), zu f (h.sz + 1 + 1 + 1 + 1 + 1 + 1 + 1 + 5) q x = f x := fun f q => zu_o (by omega)
  simp -implicitDefEqProofs only [D_133_0, k_133_0, R_133, v_aload_n, g_obj, g_iconst, g_put_i, g_bipush, g_put_a, g_new, g_dup_i, g_dup_r, v_callI1, aft_v, aft_n, g_put_o, g_return, entL, getL, setL, kL_i, kL_r, isI_s, isR_s, isJ_s, gV_s, iV_i, cs0, cs1, cs2, cs3, cs4, dn_nil, kd_si, kd_sl, kd_sw, mr_si, mr_sl, mr_sw, ml_si, ml_sw, mi_sl, nA_80, nA_320, nA_10, nA_4, nA_12, nA_1500, nA_26, nA_1168, nA_9344, nA_300, nA_16, nA_1, nO_8, sz_nw, sz_si, sz_sr, kd_nw', kd_sr, hk, e1, e2, e3, e4, e5, e6, e7, sz_cnI, sz_cnB, L1, K1, L2, K2, N2, zu_same]
  rfl
theorem sz_cnS {h : Mm} {x : Nat} : (cnS h x).sz = h.sz + 18 := rfl
