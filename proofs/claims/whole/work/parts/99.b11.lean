-- ===== bits of sets =====
theorem and_1 {x : BitVec 32} : (x &&& 1#32).toNat = x.toNat % 2 := by
  rw [BitVec.toNat_and]
  exact Nat.and_two_pow_sub_one_eq_mod x.toNat 1
theorem ofN_lt {s : Nat} (hs : s < 2147483648) : (BitVec.ofNat 32 s).toNat = s ∧ (BitVec.ofNat 32 s).msb = false := by
  have e : (BitVec.ofNat 32 s).toNat = s := by
    rw [BitVec.toNat_ofNat]
    exact Nat.mod_eq_of_lt (by omega)
  refine ⟨e, ?_⟩
  rw [BitVec.msb_eq_decide, e]
  exact decide_eq_false (by omega)
theorem bitM_0 {s : Nat} (hs : s < 2147483648) : mB (Int32.ofNat s) 0 = Int32.ofNat (s / 2 ^ 0 % 2) := by
  unfold mB
  have e : (Int32.ofNat 0 &&& 31) = 0 := by decide
  obtain ⟨h1, h2⟩ := ofN_lt hs
  rw [e]
  apply Int32.toBitVec_inj.mp
  apply BitVec.eq_of_toNat_eq
  show (((BitVec.ofNat 32 s).sshiftRight 0) &&& 1#32).toNat = (s / 2 ^ 0 % 2) % 2 ^ 32
  rw [and_1, BitVec.sshiftRight_eq_of_msb_false h2, BitVec.toNat_ushiftRight, Nat.shiftRight_eq_div_pow, h1]
  omega
theorem bitU_0 {s : Nat} (hs : s < 2147483648) : bU (Int32.ofNat s) 0 = Int32.ofNat (s / 2 ^ 0 % 2) := by
  unfold bU
  have e : ((Int32.ofNat 0).toUInt32 &&& Int32.toUInt32 31) = 0 := by decide
  obtain ⟨h1, h2⟩ := ofN_lt hs
  rw [e]
  apply Int32.toBitVec_inj.mp
  apply BitVec.eq_of_toNat_eq
  show (((BitVec.ofNat 32 s) >>> (0 : Nat)) &&& 1#32).toNat = (s / 2 ^ 0 % 2) % 2 ^ 32
  rw [and_1, BitVec.toNat_ushiftRight, Nat.shiftRight_eq_div_pow, h1]
  omega
theorem bitM_1 {s : Nat} (hs : s < 2147483648) : mB (Int32.ofNat s) 1 = Int32.ofNat (s / 2 ^ 1 % 2) := by
  unfold mB
  have e : (Int32.ofNat 1 &&& 31) = 1 := by decide
  obtain ⟨h1, h2⟩ := ofN_lt hs
  rw [e]
  apply Int32.toBitVec_inj.mp
  apply BitVec.eq_of_toNat_eq
  show (((BitVec.ofNat 32 s).sshiftRight 1) &&& 1#32).toNat = (s / 2 ^ 1 % 2) % 2 ^ 32
  rw [and_1, BitVec.sshiftRight_eq_of_msb_false h2, BitVec.toNat_ushiftRight, Nat.shiftRight_eq_div_pow, h1]
  omega
theorem bitU_1 {s : Nat} (hs : s < 2147483648) : bU (Int32.ofNat s) 1 = Int32.ofNat (s / 2 ^ 1 % 2) := by
  unfold bU
  have e : ((Int32.ofNat 1).toUInt32 &&& Int32.toUInt32 31) = 1 := by decide
  obtain ⟨h1, h2⟩ := ofN_lt hs
  rw [e]
  apply Int32.toBitVec_inj.mp
  apply BitVec.eq_of_toNat_eq
  show (((BitVec.ofNat 32 s) >>> (1 : Nat)) &&& 1#32).toNat = (s / 2 ^ 1 % 2) % 2 ^ 32
  rw [and_1, BitVec.toNat_ushiftRight, Nat.shiftRight_eq_div_pow, h1]
  omega
theorem bitM_2 {s : Nat} (hs : s < 2147483648) : mB (Int32.ofNat s) 2 = Int32.ofNat (s / 2 ^ 2 % 2) := by
  unfold mB
  have e : (Int32.ofNat 2 &&& 31) = 2 := by decide
  obtain ⟨h1, h2⟩ := ofN_lt hs
  rw [e]
  apply Int32.toBitVec_inj.mp
  apply BitVec.eq_of_toNat_eq
  show (((BitVec.ofNat 32 s).sshiftRight 2) &&& 1#32).toNat = (s / 2 ^ 2 % 2) % 2 ^ 32
  rw [and_1, BitVec.sshiftRight_eq_of_msb_false h2, BitVec.toNat_ushiftRight, Nat.shiftRight_eq_div_pow, h1]
  omega
theorem bitU_2 {s : Nat} (hs : s < 2147483648) : bU (Int32.ofNat s) 2 = Int32.ofNat (s / 2 ^ 2 % 2) := by
  unfold bU
  have e : ((Int32.ofNat 2).toUInt32 &&& Int32.toUInt32 31) = 2 := by decide
  obtain ⟨h1, h2⟩ := ofN_lt hs
  rw [e]
  apply Int32.toBitVec_inj.mp
  apply BitVec.eq_of_toNat_eq
  show (((BitVec.ofNat 32 s) >>> (2 : Nat)) &&& 1#32).toNat = (s / 2 ^ 2 % 2) % 2 ^ 32
  rw [and_1, BitVec.toNat_ushiftRight, Nat.shiftRight_eq_div_pow, h1]
  omega
theorem bitM_3 {s : Nat} (hs : s < 2147483648) : mB (Int32.ofNat s) 3 = Int32.ofNat (s / 2 ^ 3 % 2) := by
  unfold mB
  have e : (Int32.ofNat 3 &&& 31) = 3 := by decide
  obtain ⟨h1, h2⟩ := ofN_lt hs
  rw [e]
  apply Int32.toBitVec_inj.mp
  apply BitVec.eq_of_toNat_eq
  show (((BitVec.ofNat 32 s).sshiftRight 3) &&& 1#32).toNat = (s / 2 ^ 3 % 2) % 2 ^ 32
  rw [and_1, BitVec.sshiftRight_eq_of_msb_false h2, BitVec.toNat_ushiftRight, Nat.shiftRight_eq_div_pow, h1]
  omega
theorem bitU_3 {s : Nat} (hs : s < 2147483648) : bU (Int32.ofNat s) 3 = Int32.ofNat (s / 2 ^ 3 % 2) := by
  unfold bU
  have e : ((Int32.ofNat 3).toUInt32 &&& Int32.toUInt32 31) = 3 := by decide
  obtain ⟨h1, h2⟩ := ofN_lt hs
  rw [e]
  apply Int32.toBitVec_inj.mp
  apply BitVec.eq_of_toNat_eq
  show (((BitVec.ofNat 32 s) >>> (3 : Nat)) &&& 1#32).toNat = (s / 2 ^ 3 % 2) % 2 ^ 32
  rw [and_1, BitVec.toNat_ushiftRight, Nat.shiftRight_eq_div_pow, h1]
  omega
theorem bitM_4 {s : Nat} (hs : s < 2147483648) : mB (Int32.ofNat s) 4 = Int32.ofNat (s / 2 ^ 4 % 2) := by
  unfold mB
  have e : (Int32.ofNat 4 &&& 31) = 4 := by decide
  obtain ⟨h1, h2⟩ := ofN_lt hs
  rw [e]
  apply Int32.toBitVec_inj.mp
  apply BitVec.eq_of_toNat_eq
  show (((BitVec.ofNat 32 s).sshiftRight 4) &&& 1#32).toNat = (s / 2 ^ 4 % 2) % 2 ^ 32
  rw [and_1, BitVec.sshiftRight_eq_of_msb_false h2, BitVec.toNat_ushiftRight, Nat.shiftRight_eq_div_pow, h1]
  omega
theorem bitU_4 {s : Nat} (hs : s < 2147483648) : bU (Int32.ofNat s) 4 = Int32.ofNat (s / 2 ^ 4 % 2) := by
  unfold bU
  have e : ((Int32.ofNat 4).toUInt32 &&& Int32.toUInt32 31) = 4 := by decide
  obtain ⟨h1, h2⟩ := ofN_lt hs
  rw [e]
  apply Int32.toBitVec_inj.mp
  apply BitVec.eq_of_toNat_eq
  show (((BitVec.ofNat 32 s) >>> (4 : Nat)) &&& 1#32).toNat = (s / 2 ^ 4 % 2) % 2 ^ 32
  rw [and_1, BitVec.toNat_ushiftRight, Nat.shiftRight_eq_div_pow, h1]
  omega
theorem bitM_5 {s : Nat} (hs : s < 2147483648) : mB (Int32.ofNat s) 5 = Int32.ofNat (s / 2 ^ 5 % 2) := by
  unfold mB
  have e : (Int32.ofNat 5 &&& 31) = 5 := by decide
  obtain ⟨h1, h2⟩ := ofN_lt hs
  rw [e]
  apply Int32.toBitVec_inj.mp
  apply BitVec.eq_of_toNat_eq
  show (((BitVec.ofNat 32 s).sshiftRight 5) &&& 1#32).toNat = (s / 2 ^ 5 % 2) % 2 ^ 32
  rw [and_1, BitVec.sshiftRight_eq_of_msb_false h2, BitVec.toNat_ushiftRight, Nat.shiftRight_eq_div_pow, h1]
  omega
theorem bitU_5 {s : Nat} (hs : s < 2147483648) : bU (Int32.ofNat s) 5 = Int32.ofNat (s / 2 ^ 5 % 2) := by
  unfold bU
  have e : ((Int32.ofNat 5).toUInt32 &&& Int32.toUInt32 31) = 5 := by decide
  obtain ⟨h1, h2⟩ := ofN_lt hs
  rw [e]
  apply Int32.toBitVec_inj.mp
  apply BitVec.eq_of_toNat_eq
  show (((BitVec.ofNat 32 s) >>> (5 : Nat)) &&& 1#32).toNat = (s / 2 ^ 5 % 2) % 2 ^ 32
  rw [and_1, BitVec.toNat_ushiftRight, Nat.shiftRight_eq_div_pow, h1]
  omega
theorem bitM_6 {s : Nat} (hs : s < 2147483648) : mB (Int32.ofNat s) 6 = Int32.ofNat (s / 2 ^ 6 % 2) := by
  unfold mB
  have e : (Int32.ofNat 6 &&& 31) = 6 := by decide
  obtain ⟨h1, h2⟩ := ofN_lt hs
  rw [e]
  apply Int32.toBitVec_inj.mp
  apply BitVec.eq_of_toNat_eq
  show (((BitVec.ofNat 32 s).sshiftRight 6) &&& 1#32).toNat = (s / 2 ^ 6 % 2) % 2 ^ 32
  rw [and_1, BitVec.sshiftRight_eq_of_msb_false h2, BitVec.toNat_ushiftRight, Nat.shiftRight_eq_div_pow, h1]
  omega
theorem bitU_6 {s : Nat} (hs : s < 2147483648) : bU (Int32.ofNat s) 6 = Int32.ofNat (s / 2 ^ 6 % 2) := by
  unfold bU
  have e : ((Int32.ofNat 6).toUInt32 &&& Int32.toUInt32 31) = 6 := by decide
  obtain ⟨h1, h2⟩ := ofN_lt hs
  rw [e]
  apply Int32.toBitVec_inj.mp
  apply BitVec.eq_of_toNat_eq
  show (((BitVec.ofNat 32 s) >>> (6 : Nat)) &&& 1#32).toNat = (s / 2 ^ 6 % 2) % 2 ^ 32
  rw [and_1, BitVec.toNat_ushiftRight, Nat.shiftRight_eq_div_pow, h1]
  omega
theorem bitM_7 {s : Nat} (hs : s < 2147483648) : mB (Int32.ofNat s) 7 = Int32.ofNat (s / 2 ^ 7 % 2) := by
  unfold mB
  have e : (Int32.ofNat 7 &&& 31) = 7 := by decide
  obtain ⟨h1, h2⟩ := ofN_lt hs
  rw [e]
  apply Int32.toBitVec_inj.mp
  apply BitVec.eq_of_toNat_eq
  show (((BitVec.ofNat 32 s).sshiftRight 7) &&& 1#32).toNat = (s / 2 ^ 7 % 2) % 2 ^ 32
  rw [and_1, BitVec.sshiftRight_eq_of_msb_false h2, BitVec.toNat_ushiftRight, Nat.shiftRight_eq_div_pow, h1]
  omega
theorem bitU_7 {s : Nat} (hs : s < 2147483648) : bU (Int32.ofNat s) 7 = Int32.ofNat (s / 2 ^ 7 % 2) := by
  unfold bU
  have e : ((Int32.ofNat 7).toUInt32 &&& Int32.toUInt32 31) = 7 := by decide
  obtain ⟨h1, h2⟩ := ofN_lt hs
  rw [e]
  apply Int32.toBitVec_inj.mp
  apply BitVec.eq_of_toNat_eq
  show (((BitVec.ofNat 32 s) >>> (7 : Nat)) &&& 1#32).toNat = (s / 2 ^ 7 % 2) % 2 ^ 32
  rw [and_1, BitVec.toNat_ushiftRight, Nat.shiftRight_eq_div_pow, h1]
  omega
theorem bitM_8 {s : Nat} (hs : s < 2147483648) : mB (Int32.ofNat s) 8 = Int32.ofNat (s / 2 ^ 8 % 2) := by
  unfold mB
  have e : (Int32.ofNat 8 &&& 31) = 8 := by decide
  obtain ⟨h1, h2⟩ := ofN_lt hs
  rw [e]
  apply Int32.toBitVec_inj.mp
  apply BitVec.eq_of_toNat_eq
  show (((BitVec.ofNat 32 s).sshiftRight 8) &&& 1#32).toNat = (s / 2 ^ 8 % 2) % 2 ^ 32
  rw [and_1, BitVec.sshiftRight_eq_of_msb_false h2, BitVec.toNat_ushiftRight, Nat.shiftRight_eq_div_pow, h1]
  omega
theorem bitU_8 {s : Nat} (hs : s < 2147483648) : bU (Int32.ofNat s) 8 = Int32.ofNat (s / 2 ^ 8 % 2) := by
  unfold bU
  have e : ((Int32.ofNat 8).toUInt32 &&& Int32.toUInt32 31) = 8 := by decide
  obtain ⟨h1, h2⟩ := ofN_lt hs
  rw [e]
  apply Int32.toBitVec_inj.mp
  apply BitVec.eq_of_toNat_eq
  show (((BitVec.ofNat 32 s) >>> (8 : Nat)) &&& 1#32).toNat = (s / 2 ^ 8 % 2) % 2 ^ 32
  rw [and_1, BitVec.toNat_ushiftRight, Nat.shiftRight_eq_div_pow, h1]
  omega
theorem bitM_9 {s : Nat} (hs : s < 2147483648) : mB (Int32.ofNat s) 9 = Int32.ofNat (s / 2 ^ 9 % 2) := by
  unfold mB
  have e : (Int32.ofNat 9 &&& 31) = 9 := by decide
  obtain ⟨h1, h2⟩ := ofN_lt hs
  rw [e]
  apply Int32.toBitVec_inj.mp
  apply BitVec.eq_of_toNat_eq
  show (((BitVec.ofNat 32 s).sshiftRight 9) &&& 1#32).toNat = (s / 2 ^ 9 % 2) % 2 ^ 32
  rw [and_1, BitVec.sshiftRight_eq_of_msb_false h2, BitVec.toNat_ushiftRight, Nat.shiftRight_eq_div_pow, h1]
  omega
theorem bitU_9 {s : Nat} (hs : s < 2147483648) : bU (Int32.ofNat s) 9 = Int32.ofNat (s / 2 ^ 9 % 2) := by
  unfold bU
  have e : ((Int32.ofNat 9).toUInt32 &&& Int32.toUInt32 31) = 9 := by decide
  obtain ⟨h1, h2⟩ := ofN_lt hs
  rw [e]
  apply Int32.toBitVec_inj.mp
  apply BitVec.eq_of_toNat_eq
  show (((BitVec.ofNat 32 s) >>> (9 : Nat)) &&& 1#32).toNat = (s / 2 ^ 9 % 2) % 2 ^ 32
  rw [and_1, BitVec.toNat_ushiftRight, Nat.shiftRight_eq_div_pow, h1]
  omega
theorem bitM_10 {s : Nat} (hs : s < 2147483648) : mB (Int32.ofNat s) 10 = Int32.ofNat (s / 2 ^ 10 % 2) := by
  unfold mB
  have e : (Int32.ofNat 10 &&& 31) = 10 := by decide
  obtain ⟨h1, h2⟩ := ofN_lt hs
  rw [e]
  apply Int32.toBitVec_inj.mp
  apply BitVec.eq_of_toNat_eq
  show (((BitVec.ofNat 32 s).sshiftRight 10) &&& 1#32).toNat = (s / 2 ^ 10 % 2) % 2 ^ 32
  rw [and_1, BitVec.sshiftRight_eq_of_msb_false h2, BitVec.toNat_ushiftRight, Nat.shiftRight_eq_div_pow, h1]
  omega
theorem bitU_10 {s : Nat} (hs : s < 2147483648) : bU (Int32.ofNat s) 10 = Int32.ofNat (s / 2 ^ 10 % 2) := by
  unfold bU
  have e : ((Int32.ofNat 10).toUInt32 &&& Int32.toUInt32 31) = 10 := by decide
  obtain ⟨h1, h2⟩ := ofN_lt hs
  rw [e]
  apply Int32.toBitVec_inj.mp
  apply BitVec.eq_of_toNat_eq
  show (((BitVec.ofNat 32 s) >>> (10 : Nat)) &&& 1#32).toNat = (s / 2 ^ 10 % 2) % 2 ^ 32
  rw [and_1, BitVec.toNat_ushiftRight, Nat.shiftRight_eq_div_pow, h1]
  omega
theorem bitM_11 {s : Nat} (hs : s < 2147483648) : mB (Int32.ofNat s) 11 = Int32.ofNat (s / 2 ^ 11 % 2) := by
  unfold mB
  have e : (Int32.ofNat 11 &&& 31) = 11 := by decide
  obtain ⟨h1, h2⟩ := ofN_lt hs
  rw [e]
  apply Int32.toBitVec_inj.mp
  apply BitVec.eq_of_toNat_eq
  show (((BitVec.ofNat 32 s).sshiftRight 11) &&& 1#32).toNat = (s / 2 ^ 11 % 2) % 2 ^ 32
  rw [and_1, BitVec.sshiftRight_eq_of_msb_false h2, BitVec.toNat_ushiftRight, Nat.shiftRight_eq_div_pow, h1]
  omega
theorem bitU_11 {s : Nat} (hs : s < 2147483648) : bU (Int32.ofNat s) 11 = Int32.ofNat (s / 2 ^ 11 % 2) := by
  unfold bU
  have e : ((Int32.ofNat 11).toUInt32 &&& Int32.toUInt32 31) = 11 := by decide
  obtain ⟨h1, h2⟩ := ofN_lt hs
  rw [e]
  apply Int32.toBitVec_inj.mp
  apply BitVec.eq_of_toNat_eq
  show (((BitVec.ofNat 32 s) >>> (11 : Nat)) &&& 1#32).toNat = (s / 2 ^ 11 % 2) % 2 ^ 32
  rw [and_1, BitVec.toNat_ushiftRight, Nat.shiftRight_eq_div_pow, h1]
  omega
theorem bit_m {s j : Nat} (hs : s < 2147483648) (hj : j < 12) : mB (Int32.ofNat s) j = Int32.ofNat (s / 2 ^ j % 2) ∧ bU (Int32.ofNat s) j = Int32.ofNat (s / 2 ^ j % 2) := by
  have : j = 0 ∨ j = 1 ∨ j = 2 ∨ j = 3 ∨ j = 4 ∨ j = 5 ∨ j = 6 ∨ j = 7 ∨ j = 8 ∨ j = 9 ∨ j = 10 ∨ j = 11 := by omega
  rcases this with rfl | rfl | rfl | rfl | rfl | rfl | rfl | rfl | rfl | rfl | rfl | rfl
  · exact ⟨bitM_0 hs, bitU_0 hs⟩
  · exact ⟨bitM_1 hs, bitU_1 hs⟩
  · exact ⟨bitM_2 hs, bitU_2 hs⟩
  · exact ⟨bitM_3 hs, bitU_3 hs⟩
  · exact ⟨bitM_4 hs, bitU_4 hs⟩
  · exact ⟨bitM_5 hs, bitU_5 hs⟩
  · exact ⟨bitM_6 hs, bitU_6 hs⟩
  · exact ⟨bitM_7 hs, bitU_7 hs⟩
  · exact ⟨bitM_8 hs, bitU_8 hs⟩
  · exact ⟨bitM_9 hs, bitU_9 hs⟩
  · exact ⟨bitM_10 hs, bitU_10 hs⟩
  · exact ⟨bitM_11 hs, bitU_11 hs⟩
theorem bit_z {s j : Nat} (hs : s < 2147483648) (hj : j < 12) : (mB (Int32.ofNat s) j = 0 ↔ s.testBit j = false) ∧ (bU (Int32.ofNat s) j = 0 ↔ s.testBit j = false) := by
  obtain ⟨h1, h2⟩ := bit_m hs hj
  have e : Int32.ofNat (s / 2 ^ j % 2) = 0 ↔ s.testBit j = false := by
    rw [Nat.testBit_eq_decide_div_mod_eq]
    have := Nat.mod_two_eq_zero_or_one (s / 2 ^ j)
    rcases this with z | z <;> rw [z] <;> decide
  rw [h1, h2]
  exact ⟨e, e⟩
theorem bc_ok {s : Nat} (hs : s < 1024) : bcF (Int32.ofNat s) = Int32.ofNat (mbG 1024 s) ∧ mbG 1024 s < 100 := by
  have : ∀ j : Fin 1024, bcF (Int32.ofNat j.val) = Int32.ofNat (mbG 1024 j.val) ∧ mbG 1024 j.val < 100 := by decide +kernel
  exact this ⟨s, hs⟩
/-- the set of the places that f takes -/
def alN (f : Nat → Bool) (d j a : Nat) : Nat := fl (fun j a => if f j = true then a ||| (1 <<< j) else a) d j a
theorem al_bit {f : Nat → Bool} : ∀ (d j a i : Nat), (alN f d j a).testBit i = (a.testBit i || (decide (j ≤ i ∧ i < j + d) && f i)) := by
  intro d
  induction d with
  | zero =>
    intro j a i
    show a.testBit i = _
    rw [decide_eq_false (by omega), Bool.false_and, Bool.or_false]
  | succ d ih =>
    intro j a i
    show (alN f d (j + 1) (if f j = true then a ||| (1 <<< j) else a)).testBit i = _
    rw [ih]
    have e1 : (if f j = true then a ||| (1 <<< j) else a).testBit i = (a.testBit i || (decide (i = j) && f i)) := by
      by_cases c : f j = true
      · rw [if_pos c, Nat.testBit_or, Nat.one_shiftLeft, Nat.testBit_two_pow]
        by_cases e : j = i
        · subst e
          rw [decide_eq_true rfl, c, Bool.true_and]
        · rw [decide_eq_false e, decide_eq_false (fun z => e z.symm), Bool.false_and]
      · rw [if_neg c]
        by_cases e : i = j
        · subst e
          have : f i = false := by
            cases h : f i with
            | true => exact absurd h c
            | false => rfl
          rw [this, Bool.and_false, Bool.or_false]
        · rw [decide_eq_false e, Bool.false_and, Bool.or_false]
    rw [e1, Bool.or_assoc, ← Bool.and_or_distrib_right]
    congr 2
    by_cases e : i = j
    · rw [decide_eq_true e, Bool.true_or, decide_eq_true (by omega)]
    · rw [decide_eq_false e, Bool.false_or]
      by_cases c : j + 1 ≤ i ∧ i < j + 1 + d
      · rw [decide_eq_true c, decide_eq_true (by omega)]
      · rw [decide_eq_false c, decide_eq_false (by omega)]
theorem al_lt {f : Nat → Bool} {d : Nat} : alN f d 0 0 < 2 ^ d := by
  apply Nat.lt_pow_two_of_testBit
  intro i hi
  rw [al_bit, Nat.zero_testBit, decide_eq_false (by omega)]
  rfl
theorem sub_le {s a : Nat} (h : ∀ i, s.testBit i = true → a.testBit i = true) : s ≤ a := by
  have e : s &&& a = s := by
    apply Nat.eq_of_testBit_eq
    intro i
    rw [Nat.testBit_and]
    cases c : s.testBit i with
    | false => rfl
    | true => rw [h i c]; rfl
  rw [← e]
  exact Nat.and_le_right
theorem sub_iff {s a : Nat} (hs : s < 2147483648) (ha : a < 2147483648) : Int32.ofNat s &&& (Int32.ofNat a ^^^ -1) = 0 ↔ ∀ i, s.testBit i = true → a.testBit i = true := by
  have e0 : Int32.ofNat s &&& (Int32.ofNat a ^^^ -1) = 0 ↔ BitVec.ofNat 32 s &&& (BitVec.ofNat 32 a ^^^ BitVec.allOnes 32) = 0#32 := by
    rw [← Int32.toBitVec_inj]
    rfl
  rw [e0]
  refine ⟨fun h i hi => ?_, fun h => ?_⟩
  · have hi32 : i < 32 := by
      by_cases c : i < 32
      · exact c
      · have := Nat.testBit_lt_two_pow (x := s) (i := i) (Nat.lt_of_lt_of_le hs (Nat.le_trans (by decide : 2147483648 ≤ 2 ^ 31) (Nat.pow_le_pow_right (by decide) (by omega))))
        rw [this] at hi
        cases hi
    have := congrArg (fun x => BitVec.getLsbD x i) h
    simp only [BitVec.getLsbD_and, BitVec.getLsbD_xor, BitVec.getLsbD_allOnes, BitVec.getLsbD_ofNat, BitVec.getLsbD_zero, Nat.zero_testBit, hi32, decide_true, Bool.true_and, hi] at this
    cases c : a.testBit i with
    | true => rfl
    | false => rw [c] at this; cases this
  · apply BitVec.eq_of_getLsbD_eq
    intro i hi32
    simp only [BitVec.getLsbD_and, BitVec.getLsbD_xor, BitVec.getLsbD_allOnes, BitVec.getLsbD_ofNat, BitVec.getLsbD_zero, Nat.zero_testBit, hi32, decide_true, Bool.true_and]
    cases c : s.testBit i with
    | false => rfl
    | true => rw [h i c]; rfl
theorem sh_1 {j : Nat} (hj : j < 10) : (1 : Int32) <<< (Int32.ofNat j &&& 31) = Int32.ofNat (1 <<< j) := by
  have : ∀ j : Fin 10, (1 : Int32) <<< (Int32.ofNat j.val &&& 31) = Int32.ofNat (1 <<< j.val) := by decide
  exact this ⟨j, hj⟩
theorem i32_or {a b : Nat} : Int32.ofNat a ||| Int32.ofNat b = Int32.ofNat (a ||| b) := by
  apply Int32.toBitVec_inj.mp
  rw [Int32.toBitVec_or]
  show BitVec.ofNat 32 a ||| BitVec.ofNat 32 b = BitVec.ofNat 32 (a ||| b)
  exact BitVec.ofNat_or.symm
theorem i32_sss {x t z : Int32} : x - (t - z) = z + x - t := by
  apply Int32.toBitVec_inj.mp
  simp only [Int32.toBitVec_sub, Int32.toBitVec_add]
  generalize x.toBitVec = a
  generalize t.toBitVec = b
  generalize z.toBitVec = c
  bv_omega
