-- ===== calls: tools =====
def STP (h0 : Mm) (sc len c pc : Nat) : Prop := ∀ (i : Nat) (tl : Lc) (h : Mm), i + 6 ≤ len → INV h0 c h → ∃ tl' h2, dB PG 0 pc (LL sc i tl) [] h = dB PG 0 23 (LL sc (i + 6) tl') [] h2 ∧ INV h0 (c + 1) h2
theorem rng_n {i : Int32} {n : Nat} (hn : n < 1000000) (h : i < 0 ∨ ¬ i < Int32.ofNat n) : inF i 0 (Int32.ofNat n - 1) = 0 := by
  unfold inF
  by_cases c : i < 0
  · rw [if_pos c]
  · rw [if_neg c]
    have hi : ¬ i < Int32.ofNat n := by
      rcases h with z | z
      · exact absurd z c
      · exact z
    have e : (Int32.ofNat n - 1).toInt = (n : Int) - 1 := i32_sI (a := n) (b := 1) (by omega) (by decide)
    rw [if_pos]
    rw [Int32.lt_iff_toInt_lt, e]
    rw [Int32.lt_iff_toInt_lt, i32_toInt (by omega)] at hi
    omega
theorem rng_y {i : Int32} {n : Nat} (hn : n < 1000000) (h0 : ¬ i < 0) (h : i < Int32.ofNat n) : inF i 0 (Int32.ofNat n - 1) = 1 ∧ ∃ k, k < n ∧ i = Int32.ofNat k := by
  have e : (Int32.ofNat n - 1).toInt = (n : Int) - 1 := i32_sI (a := n) (b := 1) (by omega) (by decide)
  have h1 := h
  rw [Int32.lt_iff_toInt_lt, i32_toInt (by omega)] at h1
  have h2 := Int32.not_lt.mp h0
  rw [Int32.le_iff_toInt_le] at h2
  have z0 : (0 : Int32).toInt = 0 := by decide
  refine ⟨?_, i.toInt.toNat, by omega, ?_⟩
  · unfold inF
    rw [if_neg h0, if_neg]
    rw [Int32.lt_iff_toInt_lt, e]
    omega
  · apply Int32.toInt_inj.mp
    rw [i32_toInt (by omega)]
    omega
theorem may_n {t : Int32} : mayF 0 t = 1 := rfl
theorem may_x : mayF 1 0 = 2 := rfl
theorem may_y : mayF 1 1 = 0 := rfl
theorem two_0 : ¬ (2 : Int32) = 0 := by decide
theorem three_0 : ¬ (3 : Int32) = 0 := by decide
section CALL
variable {h0 h h1 : Mm} {c : Nat} {X : WX} {u d b cc v cap sc len : Nat}
theorem in_cur (I : IN6 h0 c X u d b cc v cap h) (hl : X.ld = true) : ∃ i pc n q, EqR X.ns X.cu.1 pc n (Int32.ofNat X.du) (rowsAt h b) (h.mi 283) ∧ IvR X.ns X.cu.1 i pc n q X.cu.2.1 (rowsAt h b) ∧ EqJ X.cu.1 (rowsAt h b) (h.mi 283) ∧ PlR X.ns X.st X.du (rowsAt h u) (h.mi 279) ∧ X.cu.2.1 ≤ 100 * c := by
  obtain ⟨xo, A, M, -⟩ := I
  obtain ⟨l1, l2, -⟩ := A.2.2.2.2.1 hl
  obtain ⟨m1, m2, -⟩ := M.2.2.1 hl
  obtain ⟨i, pc, n, q, E, V, J⟩ := l2
  rw [← m2] at E J
  rw [← m1] at l1
  exact ⟨i, pc, n, q, E, V, J, l1, xo.2.2.2.1⟩
/-- what a memory behind the class's part says -/
theorem in_f (I : IN6 h0 c X u d b cc v cap h) (Sa : STA h0 sc len) : h.kd sc = some (.inr (.array .int, len)) ∧ len < 1000000 ∧ h.kd 200 = some (.inl 7) ∧ h.mi 200 4 = b2i X.ld ∧ h.mi 277 21 = b2i X.ld := by
  obtain ⟨xo, A, M, Z, -, k9⟩ := I
  exact ⟨(Z sc Sa.2.2.2.2.2.1).1.trans Sa.2.2.2.2.2.2.1, by have := Sa.2.2.2.2.2.2.2; omega, A.1.1.1, A.2.2.2.1.2.2.2.2.1, M.2.1.2.2.2.2.1⟩
theorem in_g (I : IN6 h0 c X u d b cc v cap h) (Sa : STA h0 sc len) {h1' : Mm} (F : CQ cc h h1) (l : h1' = h1 ∨ ∃ w, h1' = h1.sl 290 0 w) : MO h1' ∧ h1'.kd sc = some (.inr (.array .int, len)) ∧ h1'.mi sc = h.mi sc ∧ h1'.kd 277 = some (.inl 8) ∧ h1'.mi 277 = h.mi 277 ∧ h1'.mi 279 = h.mi 279 ∧ h1'.mi 283 = h.mi 283 ∧ h1.kd 290 = some (.inr (.long, 1)) := by
  obtain ⟨A1, M1, Z1, -⟩ := in_c I F l
  have Z := I.2.2.2.1
  have k9 := I.2.2.2.2.2
  obtain ⟨-, Fk, -⟩ := F
  have hs := Sa.2.2.2.2.2.1
  refine ⟨M1.1, (Z1 sc hs).1.trans Sa.2.2.2.2.2.2.1, (Z1 sc hs).2.1.trans (Z sc hs).2.1.symm, mk_277 M1.1, ?_, ?_, ?_, (Fk 290 (by decide) (by decide)).1.trans k9⟩
  · rcases l with rfl | ⟨w, rfl⟩
    · exact (Fk 277 (by decide) (by decide)).2.2.1
    · exact (Fk 277 (by decide) (by decide)).2.2.1
  · rcases l with rfl | ⟨w, rfl⟩
    · exact (Fk 279 (by decide) (by decide)).2.2.1
    · exact (Fk 279 (by decide) (by decide)).2.2.1
  · rcases l with rfl | ⟨w, rfl⟩
    · exact (Fk 283 (by decide) (by decide)).2.2.1
    · exact (Fk 283 (by decide) (by decide)).2.2.1
theorem sl_ml {h : Mm} {w : Int64} : (h.sl 290 0 w).ml 290 0 = w := z2_s (R := h.ml) (o := 290) (k := 0) (v := w)
theorem R_15 : PG.2.1 15 = (some .int) := rfl
theorem m_15 (H : MO h) : dM PG 15 [.ref 277] h = some (.inl (some (.int (h.mi 277 20))), h.si 277 0 0) := by
  have e : (h.si 277 0 0).mi 277 20 = h.mi 277 20 := mi_sk (by decide)
  rw [dM_of (Nat.le_of_ble_eq_true rfl)]
  simp -implicitDefEqProofs only [D_15_0, k_15_0, R_15, v_aload_n, g_iconst, g_put_i, g_getfield, sv_i, rf_s, g_getfieldS, g_ireturn, entL, getL, setL, kL_i, kL_r, isI_s, isR_s, isJ_s, gV_s, iV_i, cs0, cs1, cs2, cs3, cs4, dn_nil, kd_si, kd_sl, kd_sw, mr_si, mr_sl, mr_sw, ml_si, ml_sw, mi_sl, mk_277 H, mk_278 H, mk_279 H, mk_280 H, mk_281 H, mk_282 H, mk_283 H, mk_284 H, mk_285 H, mk_286 H, mk_287 H, mk_288 H, mk_289 H, mr_1 H, mr_11 H, mr_12 H, mr_13 H, mr_14 H, mr_15 H, mr_16 H, mr_17 H, mr_18 H, mr_19 H, mr_24 H, mr_25 H, kd_si, e, retX_int]
end CALL
