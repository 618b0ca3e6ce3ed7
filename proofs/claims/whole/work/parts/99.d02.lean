-- ===== the law's loop =====
def offL : Array Int := #[272, 345, 401, 414, 427, 440, 453, 466, 522, 590, 646, 702, 758, 814, 882, 950, 963, 1019, 1075, 1131, 1187, 1243, 1299, 1355, 1368, 1381, 1394, 1450, 1463, 1476, 1539, 1583, 1596, 1652, 1708, 1764, 1820, 1876, 1932, 2016, 2072, 2128, 2196, 2252, 2308, 2376, 2432, 2500, 2580, 2624, 2680, 2748, 2816, 2908, 2964, 3020, 3088, 3168, 3212, 3225, 3269, 3313, 3369, 3413]
theorem and_63 (x : Int32) : ∃ k, k < 64 ∧ x &&& 63 = Int32.ofNat k := by
  refine ⟨x.toBitVec.toNat % 64, Nat.mod_lt _ (by decide), ?_⟩
  have e : (x.toBitVec &&& 63#32).toNat = x.toBitVec.toNat % 64 := by
    rw [BitVec.toNat_and]
    exact Nat.and_two_pow_sub_one_eq_mod _ 6
  apply Int32.toBitVec_inj.mp
  apply BitVec.eq_of_toNat_eq
  show (x.toBitVec &&& 63#32).toNat = (BitVec.ofNat 32 (x.toBitVec.toNat % 64)).toNat
  rw [e, BitVec.toNat_ofNat]
  omega
theorem law_23 {sc i len : Nat} {tl : Lc} (hl : len < 1000000) (hi : i + 6 ≤ len) {h : Mm} (ks : h.kd sc = some (.inr (.array .int, len))) : dB PG 0 23 (LL sc i tl) [] h = dB PG 0 (swT 40 3469 0 63 offL (h.mi sc i &&& 63)) (LL sc i tl) [] h := by
  have b_1 : inb (Int32.ofNat i) len = true := inb_nat (by omega) (by omega)
  have n_1 : (Int32.ofNat i).toNatClampNeg = i := i32_nat (by omega)
  have c1 : ¬ Int32.ofNat len - 6 < Int32.ofNat i := by
    have e : (Int32.ofNat len - 6).toInt = (len : Int) - 6 := i32_sI (a := len) (b := 6) (by omega) (by decide)
    rw [Int32.lt_iff_toInt_lt, e, i32_toInt (by omega)]
    omega
  rw [D_0_23]
  unfold LL
  simp -implicitDefEqProofs only [k_0_23, v_iload, v_aload_n, v_alen, isA_0, lnA_0, g_bipush, g_isub, g_icmp_gt, v_iaload, inI_0, g_iand, g_tsw, entL, getL, setL, kL_i, kL_r, isI_s, isR_s, isJ_s, gV_s, iV_i, cs0, cs1, cs2, cs3, cs4, dn_nil, kd_si, kd_sl, kd_sw, mr_si, mr_sl, mr_sw, ml_si, ml_sw, mi_sl, ks, inI_1, b_1, n_1, ↓if_neg c1, if_neg c1]
  rfl
theorem law_e {sc i len : Nat} {tl : Lc} (hl : len < 1000000) (h1 : i ≤ len) (hi : len < i + 6) {h : Mm} (ks : h.kd sc = some (.inr (.array .int, len))) : dB PG 0 23 (LL sc i tl) [] h = some (.inl (some (.int 1)), h) := by
  have c1 : Int32.ofNat len - 6 < Int32.ofNat i := by
    have e : (Int32.ofNat len - 6).toInt = (len : Int) - 6 := i32_sI (a := len) (b := 6) (by omega) (by decide)
    rw [Int32.lt_iff_toInt_lt, e, i32_toInt (by omega)]
    omega
  rw [D_0_23]
  unfold LL
  simp -implicitDefEqProofs only [k_0_23, D_0_3515, k_0_3515, R_0, v_iload, v_aload_n, v_alen, isA_0, lnA_0, g_bipush, g_isub, g_icmp_gt, v_iaload, inI_0, g_iand, g_tsw, g_iconst, g_ireturn, entL, getL, setL, kL_i, kL_r, isI_s, isR_s, isJ_s, gV_s, iV_i, cs0, cs1, cs2, cs3, cs4, dn_nil, kd_si, kd_sl, kd_sw, mr_si, mr_sl, mr_sw, ml_si, ml_sw, mi_sl, ks, inI_1, ↓if_pos c1, if_pos c1, rX_1]
theorem st_all {h0 : Mm} {c sc len : Nat} (Sa : STA h0 sc len) (hc : c ≤ 600) {k : Nat} (hk : k < 64) : STP h0 sc len c (swT 40 3469 0 63 offL (Int32.ofNat k)) := by
  by_cases q32 : k < 32
  · by_cases q16 : k < 16
    · by_cases q8 : k < 8
      · by_cases q4 : k < 4
        · by_cases q2 : k < 2
          · by_cases q1 : k < 1
            · obtain rfl : k = 0 := by omega
              rw [show swT 40 3469 0 63 offL (Int32.ofNat 0) = 312 by decide +kernel]
              exact st_0 Sa
            · obtain rfl : k = 1 := by omega
              rw [show swT 40 3469 0 63 offL (Int32.ofNat 1) = 385 by decide +kernel]
              exact st_1 Sa hc
          · by_cases q3 : k < 3
            · obtain rfl : k = 2 := by omega
              rw [show swT 40 3469 0 63 offL (Int32.ofNat 2) = 441 by decide +kernel]
              exact st_2 Sa
            · obtain rfl : k = 3 := by omega
              rw [show swT 40 3469 0 63 offL (Int32.ofNat 3) = 454 by decide +kernel]
              exact st_3 Sa
        · by_cases q6 : k < 6
          · by_cases q5 : k < 5
            · obtain rfl : k = 4 := by omega
              rw [show swT 40 3469 0 63 offL (Int32.ofNat 4) = 467 by decide +kernel]
              exact st_4 Sa
            · obtain rfl : k = 5 := by omega
              rw [show swT 40 3469 0 63 offL (Int32.ofNat 5) = 480 by decide +kernel]
              exact st_5 Sa
          · by_cases q7 : k < 7
            · obtain rfl : k = 6 := by omega
              rw [show swT 40 3469 0 63 offL (Int32.ofNat 6) = 493 by decide +kernel]
              exact st_6 Sa
            · obtain rfl : k = 7 := by omega
              rw [show swT 40 3469 0 63 offL (Int32.ofNat 7) = 506 by decide +kernel]
              exact st_7 Sa
      · by_cases q12 : k < 12
        · by_cases q10 : k < 10
          · by_cases q9 : k < 9
            · obtain rfl : k = 8 := by omega
              rw [show swT 40 3469 0 63 offL (Int32.ofNat 8) = 562 by decide +kernel]
              exact st_8 Sa
            · obtain rfl : k = 9 := by omega
              rw [show swT 40 3469 0 63 offL (Int32.ofNat 9) = 630 by decide +kernel]
              exact st_9 Sa
          · by_cases q11 : k < 11
            · obtain rfl : k = 10 := by omega
              rw [show swT 40 3469 0 63 offL (Int32.ofNat 10) = 686 by decide +kernel]
              exact st_10 Sa
            · obtain rfl : k = 11 := by omega
              rw [show swT 40 3469 0 63 offL (Int32.ofNat 11) = 742 by decide +kernel]
              exact st_11 Sa
        · by_cases q14 : k < 14
          · by_cases q13 : k < 13
            · obtain rfl : k = 12 := by omega
              rw [show swT 40 3469 0 63 offL (Int32.ofNat 12) = 798 by decide +kernel]
              exact st_12 Sa
            · obtain rfl : k = 13 := by omega
              rw [show swT 40 3469 0 63 offL (Int32.ofNat 13) = 854 by decide +kernel]
              exact st_13 Sa
          · by_cases q15 : k < 15
            · obtain rfl : k = 14 := by omega
              rw [show swT 40 3469 0 63 offL (Int32.ofNat 14) = 922 by decide +kernel]
              exact st_14 Sa
            · obtain rfl : k = 15 := by omega
              rw [show swT 40 3469 0 63 offL (Int32.ofNat 15) = 990 by decide +kernel]
              exact st_15 Sa
    · by_cases q24 : k < 24
      · by_cases q20 : k < 20
        · by_cases q18 : k < 18
          · by_cases q17 : k < 17
            · obtain rfl : k = 16 := by omega
              rw [show swT 40 3469 0 63 offL (Int32.ofNat 16) = 1003 by decide +kernel]
              exact st_16 Sa
            · obtain rfl : k = 17 := by omega
              rw [show swT 40 3469 0 63 offL (Int32.ofNat 17) = 1059 by decide +kernel]
              exact st_17 Sa
          · by_cases q19 : k < 19
            · obtain rfl : k = 18 := by omega
              rw [show swT 40 3469 0 63 offL (Int32.ofNat 18) = 1115 by decide +kernel]
              exact st_18 Sa
            · obtain rfl : k = 19 := by omega
              rw [show swT 40 3469 0 63 offL (Int32.ofNat 19) = 1171 by decide +kernel]
              exact st_19 Sa
        · by_cases q22 : k < 22
          · by_cases q21 : k < 21
            · obtain rfl : k = 20 := by omega
              rw [show swT 40 3469 0 63 offL (Int32.ofNat 20) = 1227 by decide +kernel]
              exact st_20 Sa
            · obtain rfl : k = 21 := by omega
              rw [show swT 40 3469 0 63 offL (Int32.ofNat 21) = 1283 by decide +kernel]
              exact st_21 Sa
          · by_cases q23 : k < 23
            · obtain rfl : k = 22 := by omega
              rw [show swT 40 3469 0 63 offL (Int32.ofNat 22) = 1339 by decide +kernel]
              exact st_22 Sa
            · obtain rfl : k = 23 := by omega
              rw [show swT 40 3469 0 63 offL (Int32.ofNat 23) = 1395 by decide +kernel]
              exact st_23 Sa
      · by_cases q28 : k < 28
        · by_cases q26 : k < 26
          · by_cases q25 : k < 25
            · obtain rfl : k = 24 := by omega
              rw [show swT 40 3469 0 63 offL (Int32.ofNat 24) = 1408 by decide +kernel]
              exact st_24 Sa
            · obtain rfl : k = 25 := by omega
              rw [show swT 40 3469 0 63 offL (Int32.ofNat 25) = 1421 by decide +kernel]
              exact st_25 Sa
          · by_cases q27 : k < 27
            · obtain rfl : k = 26 := by omega
              rw [show swT 40 3469 0 63 offL (Int32.ofNat 26) = 1434 by decide +kernel]
              exact st_26 Sa
            · obtain rfl : k = 27 := by omega
              rw [show swT 40 3469 0 63 offL (Int32.ofNat 27) = 1490 by decide +kernel]
              exact st_27 Sa
        · by_cases q30 : k < 30
          · by_cases q29 : k < 29
            · obtain rfl : k = 28 := by omega
              rw [show swT 40 3469 0 63 offL (Int32.ofNat 28) = 1503 by decide +kernel]
              exact st_28 Sa
            · obtain rfl : k = 29 := by omega
              rw [show swT 40 3469 0 63 offL (Int32.ofNat 29) = 1516 by decide +kernel]
              exact st_29 Sa
          · by_cases q31 : k < 31
            · obtain rfl : k = 30 := by omega
              rw [show swT 40 3469 0 63 offL (Int32.ofNat 30) = 1579 by decide +kernel]
              exact st_30 Sa
            · obtain rfl : k = 31 := by omega
              rw [show swT 40 3469 0 63 offL (Int32.ofNat 31) = 1623 by decide +kernel]
              exact st_31 Sa
  · by_cases q48 : k < 48
    · by_cases q40 : k < 40
      · by_cases q36 : k < 36
        · by_cases q34 : k < 34
          · by_cases q33 : k < 33
            · obtain rfl : k = 32 := by omega
              rw [show swT 40 3469 0 63 offL (Int32.ofNat 32) = 1636 by decide +kernel]
              exact st_32 Sa
            · obtain rfl : k = 33 := by omega
              rw [show swT 40 3469 0 63 offL (Int32.ofNat 33) = 1692 by decide +kernel]
              exact st_33 Sa
          · by_cases q35 : k < 35
            · obtain rfl : k = 34 := by omega
              rw [show swT 40 3469 0 63 offL (Int32.ofNat 34) = 1748 by decide +kernel]
              exact st_34 Sa
            · obtain rfl : k = 35 := by omega
              rw [show swT 40 3469 0 63 offL (Int32.ofNat 35) = 1804 by decide +kernel]
              exact st_35 Sa
        · by_cases q38 : k < 38
          · by_cases q37 : k < 37
            · obtain rfl : k = 36 := by omega
              rw [show swT 40 3469 0 63 offL (Int32.ofNat 36) = 1860 by decide +kernel]
              exact st_36 Sa
            · obtain rfl : k = 37 := by omega
              rw [show swT 40 3469 0 63 offL (Int32.ofNat 37) = 1916 by decide +kernel]
              exact st_37 Sa
          · by_cases q39 : k < 39
            · obtain rfl : k = 38 := by omega
              rw [show swT 40 3469 0 63 offL (Int32.ofNat 38) = 1972 by decide +kernel]
              exact st_38 Sa
            · obtain rfl : k = 39 := by omega
              rw [show swT 40 3469 0 63 offL (Int32.ofNat 39) = 2056 by decide +kernel]
              exact st_39 Sa hc
      · by_cases q44 : k < 44
        · by_cases q42 : k < 42
          · by_cases q41 : k < 41
            · obtain rfl : k = 40 := by omega
              rw [show swT 40 3469 0 63 offL (Int32.ofNat 40) = 2112 by decide +kernel]
              exact st_40 Sa hc
            · obtain rfl : k = 41 := by omega
              rw [show swT 40 3469 0 63 offL (Int32.ofNat 41) = 2168 by decide +kernel]
              exact st_41 Sa hc
          · by_cases q43 : k < 43
            · obtain rfl : k = 42 := by omega
              rw [show swT 40 3469 0 63 offL (Int32.ofNat 42) = 2236 by decide +kernel]
              exact st_42 Sa hc
            · obtain rfl : k = 43 := by omega
              rw [show swT 40 3469 0 63 offL (Int32.ofNat 43) = 2292 by decide +kernel]
              exact st_43 Sa hc
        · by_cases q46 : k < 46
          · by_cases q45 : k < 45
            · obtain rfl : k = 44 := by omega
              rw [show swT 40 3469 0 63 offL (Int32.ofNat 44) = 2348 by decide +kernel]
              exact st_44 Sa hc
            · obtain rfl : k = 45 := by omega
              rw [show swT 40 3469 0 63 offL (Int32.ofNat 45) = 2416 by decide +kernel]
              exact st_45 Sa hc
          · by_cases q47 : k < 47
            · obtain rfl : k = 46 := by omega
              rw [show swT 40 3469 0 63 offL (Int32.ofNat 46) = 2472 by decide +kernel]
              exact st_46 Sa
            · obtain rfl : k = 47 := by omega
              rw [show swT 40 3469 0 63 offL (Int32.ofNat 47) = 2540 by decide +kernel]
              exact st_47 Sa
    · by_cases q56 : k < 56
      · by_cases q52 : k < 52
        · by_cases q50 : k < 50
          · by_cases q49 : k < 49
            · obtain rfl : k = 48 := by omega
              rw [show swT 40 3469 0 63 offL (Int32.ofNat 48) = 2620 by decide +kernel]
              exact st_48 Sa
            · obtain rfl : k = 49 := by omega
              rw [show swT 40 3469 0 63 offL (Int32.ofNat 49) = 2664 by decide +kernel]
              exact st_49 Sa hc
          · by_cases q51 : k < 51
            · obtain rfl : k = 50 := by omega
              rw [show swT 40 3469 0 63 offL (Int32.ofNat 50) = 2720 by decide +kernel]
              exact st_50 Sa
            · obtain rfl : k = 51 := by omega
              rw [show swT 40 3469 0 63 offL (Int32.ofNat 51) = 2788 by decide +kernel]
              exact st_51 Sa hc
        · by_cases q54 : k < 54
          · by_cases q53 : k < 53
            · obtain rfl : k = 52 := by omega
              rw [show swT 40 3469 0 63 offL (Int32.ofNat 52) = 2856 by decide +kernel]
              exact st_52 Sa hc
            · obtain rfl : k = 53 := by omega
              rw [show swT 40 3469 0 63 offL (Int32.ofNat 53) = 2948 by decide +kernel]
              exact st_53 Sa hc
          · by_cases q55 : k < 55
            · obtain rfl : k = 54 := by omega
              rw [show swT 40 3469 0 63 offL (Int32.ofNat 54) = 3004 by decide +kernel]
              exact st_54 Sa hc
            · obtain rfl : k = 55 := by omega
              rw [show swT 40 3469 0 63 offL (Int32.ofNat 55) = 3060 by decide +kernel]
              exact st_55 Sa hc
      · by_cases q60 : k < 60
        · by_cases q58 : k < 58
          · by_cases q57 : k < 57
            · obtain rfl : k = 56 := by omega
              rw [show swT 40 3469 0 63 offL (Int32.ofNat 56) = 3128 by decide +kernel]
              exact st_56 Sa hc
            · obtain rfl : k = 57 := by omega
              rw [show swT 40 3469 0 63 offL (Int32.ofNat 57) = 3208 by decide +kernel]
              exact st_57 Sa hc
          · by_cases q59 : k < 59
            · obtain rfl : k = 58 := by omega
              rw [show swT 40 3469 0 63 offL (Int32.ofNat 58) = 3252 by decide +kernel]
              exact st_58 Sa
            · obtain rfl : k = 59 := by omega
              rw [show swT 40 3469 0 63 offL (Int32.ofNat 59) = 3265 by decide +kernel]
              exact st_59 Sa hc
        · by_cases q62 : k < 62
          · by_cases q61 : k < 61
            · obtain rfl : k = 60 := by omega
              rw [show swT 40 3469 0 63 offL (Int32.ofNat 60) = 3309 by decide +kernel]
              exact st_60 Sa hc
            · obtain rfl : k = 61 := by omega
              rw [show swT 40 3469 0 63 offL (Int32.ofNat 61) = 3353 by decide +kernel]
              exact st_61 Sa
          · by_cases q63 : k < 63
            · obtain rfl : k = 62 := by omega
              rw [show swT 40 3469 0 63 offL (Int32.ofNat 62) = 3409 by decide +kernel]
              exact st_62 Sa hc
            · obtain rfl : k = 63 := by omega
              rw [show swT 40 3469 0 63 offL (Int32.ofNat 63) = 3453 by decide +kernel]
              exact st_63 Sa
theorem law_lp {h0 : Mm} {sc len : Nat} (Sa : STA h0 sc len) : ∀ (d c i : Nat) (tl : Lc) (h : Mm), i = 6 * c → i ≤ len → len < i + 6 * d + 6 → INV h0 c h → ∃ h2 c', dB PG 0 23 (LL sc i tl) [] h = some (.inl (some (.int 1)), h2) ∧ INV h0 c' h2 ∧ c' ≤ 600 := by
  have hl := Sa.2.2.2.2.2.2.2
  intro d
  induction d with
  | zero =>
    intro c i tl h hi h1 h2 I
    have ks : h.kd sc = some (.inr (.array .int, len)) := by
      obtain ⟨X, u, d, b, cc, v, cap, I6⟩ := I
      exact (in_f (h0 := h0) (c := c) (X := X) (u := u) (d := d) (b := b) (cc := cc) (v := v) (cap := cap) I6 Sa).1
    exact ⟨h, c, law_e (by omega) h1 (by omega) ks, I, by omega⟩
  | succ d ih =>
    intro c i tl h hi h1 h2 I
    have ks : h.kd sc = some (.inr (.array .int, len)) := by
      obtain ⟨X, u, d, b, cc, v, cap, I6⟩ := I
      exact (in_f (h0 := h0) (c := c) (X := X) (u := u) (d := d) (b := b) (cc := cc) (v := v) (cap := cap) I6 Sa).1
    by_cases q : i + 6 ≤ len
    · obtain ⟨k, hk, ek⟩ := and_63 (h.mi sc i)
      obtain ⟨tl', h', e, I'⟩ := st_all (c := c) Sa (by omega) hk i tl h q I
      obtain ⟨h3, c3, e3, I3, l3⟩ := ih (c + 1) (i + 6) tl' h' (by omega) q (by omega) I'
      refine ⟨h3, c3, ?_, I3, l3⟩
      rw [law_23 (by omega) q ks, ek, e, e3]
    · exact ⟨h, c, law_e (by omega) h1 (by omega) ks, I, by omega⟩
/-- the law answers 1 -/
theorem law_all {h : Mm} {sc len : Nat} (hs : h.sz = 200) (hn : h.nc = 0) (ht : h.ns = 0) (Sa : STA h sc len) : ∃ h2, dB PG 0 0 [some (.ref sc)] [] h = some (.inl (some (.int 1)), h2) ∧ h2.nc ≤ 500000 ∧ h2.ns ≤ 5000000 := by
  obtain ⟨Z, e1, I⟩ := law_0 (sc := sc) hs hn ht
  obtain ⟨h2, c', e2, I2, l2⟩ := law_lp Sa len 0 0 [] Z rfl (Nat.zero_le _) (by omega) I
  refine ⟨h2, e1.trans e2, ?_, ?_⟩
  · obtain ⟨X, u, d, b, cc, v, cap, -, -, -, -, R, -⟩ := I2
    have := R.1
    omega
  · obtain ⟨X, u, d, b, cc, v, cap, -, -, -, -, R, -⟩ := I2
    have := R.2
    omega
