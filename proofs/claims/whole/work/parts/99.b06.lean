-- ===== the next item is handled; a tick =====
/-- the class's setup and the model's plan -/
def PlR (ns st du : Nat) (D : Nat → Nat → Int32) (pl : Nat → Int32) : Prop := ((∀ k, k < 7 → D 0 k = pl k) ∧ D 0 7 = pl 25) ∧ (D 0 8 = Int32.ofNat st ∧ pl 16 = Int32.ofNat st ∧ D 0 11 = Int32.ofNat ns ∧ pl 7 = Int32.ofNat ns ∧ st ≤ 4 ∧ ns ≤ 4 ∧ 1 ≤ ns) ∧ (∀ k, k < st → D 1 k = pl (17 + k) ∧ D 2 k = pl (21 + k)) ∧ (∀ k, k < ns → D (3 + k) 1 = pl (8 + k) ∧ D (3 + k) 2 = pl (12 + k) ∧ (∃ nb, 1 ≤ nb ∧ nb ≤ 3 ∧ pl (8 + k) = Int32.ofNat nb) ∧ ∃ pr, pr ≤ 99 ∧ pl (12 + k) = Int32.ofNat pr) ∧ (pl 6 = Int32.ofNat du ∧ du ≤ 99) ∧ (∃ rf, 1 ≤ rf ∧ rf ≤ 9999 ∧ pl 0 = Int32.ofNat rf) ∧ (∃ mg, mg ≤ 99 ∧ pl 1 = Int32.ofNat mg) ∧ (∃ rm, rm ≤ 10 ∧ pl 2 = Int32.ofNat rm)
def cN (x : Int32) : Nat := x.toNatClampNeg
theorem cN_of {a : Nat} (h : a < 2147483648) : cN (Int32.ofNat a) = a := i32_nat h
def hnC (D R : Nat → Nat → Int32) : Nat → Nat → Int32 :=
  if cN (R 7 1) < cN (R 7 0) then
    (if R 9 (cN (R 7 1)) = -1 then zu2 (ghA R) 10 (cN (R 7 1)) 1
    else if R 4 (cN (R 9 (cN (R 7 1)))) + R 8 (cN (R 7 1)) ≤ R 3 (cN (R 9 (cN (R 7 1)))) then
      (match gchF (ghL R (cN (R 9 (cN (R 7 1)))) (cN (R 7 1))) (cN (R 9 (cN (R 7 1)))) (R 8 (cN (R 7 1))) (D 0 2) (cN (D (3 + cN (R 9 (cN (R 7 1)))) 1)) with
      | none => gpoA (ghL R (cN (R 9 (cN (R 7 1)))) (cN (R 7 1))) (cN (R 7 1)) (cN (R 0 5))
      | some p => if gpA (ghL R (cN (R 9 (cN (R 7 1)))) (cN (R 7 1))) (cN (R 9 (cN (R 7 1)))) p (cN (R 7 1)) 6 (cN (R 9 (cN (R 7 1))) * 3 + p) < gpA (ghL R (cN (R 9 (cN (R 7 1)))) (cN (R 7 1))) (cN (R 9 (cN (R 7 1)))) p (cN (R 7 1)) 2 (cN (R 9 (cN (R 7 1)))) then gpA (ghL R (cN (R 9 (cN (R 7 1)))) (cN (R 7 1))) (cN (R 9 (cN (R 7 1)))) p (cN (R 7 1)) else gclA (gpA (ghL R (cN (R 9 (cN (R 7 1)))) (cN (R 7 1))) (cN (R 9 (cN (R 7 1)))) p (cN (R 7 1))) (cN (R 9 (cN (R 7 1)))) p (cN (R 13 0)) (cN (R 7 0)))
    else zu2 (zu2 (ghA R) 10 (cN (R 7 1)) 2) 5 (cN (R 9 (cN (R 7 1)))) (R 5 (cN (R 9 (cN (R 7 1)))) + R 8 (cN (R 7 1))))
  else R
def hnM (pl S : Nat → Int32) : Nat → Int32 :=
  if cN (S 5) < cN (S 9) then
    (if S (288 + cN (S 5)) = -1 then hdR S (cN (S 5))
    else if hdA S (18 + cN (S (288 + cN (S 5)))) + hdA S (208 + cN (S 5)) ≤ hdA S (14 + cN (S (288 + cN (S 5)))) then
      (match placeF (hdL S (cN (S (288 + cN (S 5)))) (cN (S 5))) pl (cN (S (288 + cN (S 5)))) (cN (S 5)) (cN (pl (8 + cN (S (288 + cN (S 5)))))) with
      | none => hdP S (cN (S (288 + cN (S 5)))) (cN (S 5)) (cN (S 7))
      | some p => putF (pl 6) (hdL S (cN (S (288 + cN (S 5)))) (cN (S 5))) (cN (S (288 + cN (S 5)))) p (cN (S 5)) (cN (S 8)) (cN (S 9)))
    else hdD S (cN (S (288 + cN (S 5)))) (cN (S 5)))
  else S
/-- class and model are in one state -/
def RS (ns du m tm : Nat) (R : Nat → Nat → Int32) (S : Nat → Int32) : Prop := ∃ i pc n q, EqR ns m pc n (Int32.ofNat du) R S ∧ IvR ns m i pc n q tm R ∧ EqJ m R S
section HN
variable {ns m i pc n q tm : Nat} {du : Nat} {R : Nat → Nat → Int32} {S : Nat → Int32} {k p x : Nat}
theorem ghA_r {o : Nat} (h : o ≠ 7) : ghA R o = R o := z2_o h
theorem ghA_v : ghA R 7 0 = R 7 0 ∧ ghA R 7 1 = R 7 1 + 1 := ⟨z2_ne (by omega), z2_s⟩
theorem hdA_o {a : Nat} (h : a ≠ 5) : hdA S a = S a := zu_o h
theorem ha_eq (E : EqR ns m pc n (Int32.ofNat du) R S) (hn : n ≤ 80) (hm : m ≤ 80) (hpc : pc ≤ 10) (hs : ns ≤ 4) : EqR ns m pc n (Int32.ofNat du) (ghA R) (hdA S) := by
  obtain ⟨⟨s0, s1, s2, s3, s4, s7, s5, s9, s8⟩, P, T, L, C, I, V, B⟩ := E
  have g : ∀ o, o ≠ 7 → ghA R o = R o := fun o h => ghA_r h
  have e : ∀ a, a ≠ 5 → hdA S a = S a := fun a h => hdA_o h
  refine ⟨⟨?_, ?_, ?_, ?_, ?_, ?_, ?_, ?_, ?_⟩, fun j hj => ?_, fun k hk => ?_, fun k hk => ?_, fun k p hk hp => ?_, fun j hj => ?_, fun j k hj hk => ?_, fun b hb => ?_⟩
  · rw [e _ (by omega), g _ (by omega), s0]
  · rw [e _ (by omega), g _ (by omega), s1]
  · rw [e _ (by omega), g _ (by omega), s2]
  · rw [e _ (by omega), g _ (by omega), s3]
  · rw [e _ (by omega), g _ (by omega), s4]
  · rw [e _ (by omega), g _ (by omega), s7]
  · rw [ghA_v.2]
    unfold hdA
    rw [zu_same, s5]
  · rw [e _ (by omega), ghA_v.1, s9]
  · rw [e _ (by omega), g _ (by omega), s8]
  · rw [e _ (by omega), g _ (by omega)]
    exact P j hj
  · rw [e _ (by omega), e _ (by omega), g _ (by omega), g _ (by omega)]
    exact T k hk
  · rw [e _ (by omega), e _ (by omega), g _ (by omega), g _ (by omega)]
    exact L k hk
  · rw [e _ (by omega), g _ (by omega)]
    exact C k p hk hp
  · rw [e _ (by omega), e _ (by omega), e _ (by omega), e _ (by omega), g _ (by omega), g _ (by omega), g _ (by omega), g _ (by omega)]
    exact I j hj
  · rw [e _ (by omega), g _ (by omega)]
    exact V j k hj hk
  · rw [e _ (by omega), e _ (by omega), e _ (by omega), e _ (by omega), e _ (by omega), e _ (by omega), g _ (by omega), g _ (by omega), g _ (by omega), g _ (by omega), g _ (by omega)]
    exact B b hb
/-- a row of the species (4, 5: landed, discarded) -/
theorem lk_eq {v : Int32} (E : EqR ns m pc n (Int32.ofNat du) R S) (hk : k < 4) (hn : n ≤ 80) (hm : m ≤ 80) (hpc : pc ≤ 10) (hs : ns ≤ 4) : EqR ns m pc n (Int32.ofNat du) (zu2 R 4 k v) (zu S (18 + k) v) ∧ EqR ns m pc n (Int32.ofNat du) (zu2 R 5 k v) (zu S (22 + k) v) := by
  obtain ⟨⟨s0, s1, s2, s3, s4, s7, s5, s9, s8⟩, P, T, L, C, I, V, B⟩ := E
  refine ⟨⟨⟨?_, ?_, ?_, ?_, ?_, ?_, ?_, ?_, ?_⟩, fun j hj => ?_, fun k hk => ?_, fun k2 hk2 => ?_, fun k p hk hp => ?_, fun j hj => ?_, fun j k hj hk => ?_, fun b hb => ?_⟩, ⟨⟨?_, ?_, ?_, ?_, ?_, ?_, ?_, ?_, ?_⟩, fun j hj => ?_, fun k hk => ?_, fun k2 hk2 => ?_, fun k p hk hp => ?_, fun j hj => ?_, fun j k hj hk => ?_, fun b hb => ?_⟩⟩
  · simp (disch := omega) only [zu_same, zu_o, z2_s, z2_ne, s0]
  · simp (disch := omega) only [zu_same, zu_o, z2_s, z2_ne, s1]
  · simp (disch := omega) only [zu_same, zu_o, z2_s, z2_ne, s2]
  · simp (disch := omega) only [zu_same, zu_o, z2_s, z2_ne, s3]
  · simp (disch := omega) only [zu_same, zu_o, z2_s, z2_ne, s4]
  · simp (disch := omega) only [zu_same, zu_o, z2_s, z2_ne, s7]
  · simp (disch := omega) only [zu_same, zu_o, z2_s, z2_ne, s5]
  · simp (disch := omega) only [zu_same, zu_o, z2_s, z2_ne, s9]
  · simp (disch := omega) only [zu_same, zu_o, z2_s, z2_ne, s8]
  · simp (disch := omega) only [zu_same, zu_o, z2_s, z2_ne]
    exact P j hj
  · simp (disch := omega) only [zu_same, zu_o, z2_s, z2_ne]
    exact T k hk
  · by_cases c : k2 = k
    · subst c
      rw [zu_same, z2_s, zu_o (by omega), z2_o (by decide)]
      exact ⟨rfl, (L k2 hk2).2⟩
    · simp (disch := omega) only [zu_same, zu_o, z2_s, z2_ne]
      exact L k2 hk2
  · simp (disch := omega) only [zu_same, zu_o, z2_s, z2_ne]
    exact C k p hk hp
  · simp (disch := omega) only [zu_same, zu_o, z2_s, z2_ne]
    exact I j hj
  · simp (disch := omega) only [zu_same, zu_o, z2_s, z2_ne]
    exact V j k hj hk
  · simp (disch := omega) only [zu_same, zu_o, z2_s, z2_ne]
    exact B b hb
  · simp (disch := omega) only [zu_same, zu_o, z2_s, z2_ne, s0]
  · simp (disch := omega) only [zu_same, zu_o, z2_s, z2_ne, s1]
  · simp (disch := omega) only [zu_same, zu_o, z2_s, z2_ne, s2]
  · simp (disch := omega) only [zu_same, zu_o, z2_s, z2_ne, s3]
  · simp (disch := omega) only [zu_same, zu_o, z2_s, z2_ne, s4]
  · simp (disch := omega) only [zu_same, zu_o, z2_s, z2_ne, s7]
  · simp (disch := omega) only [zu_same, zu_o, z2_s, z2_ne, s5]
  · simp (disch := omega) only [zu_same, zu_o, z2_s, z2_ne, s9]
  · simp (disch := omega) only [zu_same, zu_o, z2_s, z2_ne, s8]
  · simp (disch := omega) only [zu_same, zu_o, z2_s, z2_ne]
    exact P j hj
  · simp (disch := omega) only [zu_same, zu_o, z2_s, z2_ne]
    exact T k hk
  · by_cases c : k2 = k
    · subst c
      rw [zu_same, z2_s, zu_o (by omega), z2_o (by decide)]
      exact ⟨(L k2 hk2).1, rfl⟩
    · simp (disch := omega) only [zu_same, zu_o, z2_s, z2_ne]
      exact L k2 hk2
  · simp (disch := omega) only [zu_same, zu_o, z2_s, z2_ne]
    exact C k p hk hp
  · simp (disch := omega) only [zu_same, zu_o, z2_s, z2_ne]
    exact I j hj
  · simp (disch := omega) only [zu_same, zu_o, z2_s, z2_ne]
    exact V j k hj hk
  · simp (disch := omega) only [zu_same, zu_o, z2_s, z2_ne]
    exact B b hb
theorem ft_eq {v : Int32} (E : EqR ns m pc n (Int32.ofNat du) R S) (hx : x < 80) (hn : n ≤ 80) (hm : m ≤ 80) (hpc : pc ≤ 10) (hs : ns ≤ 4) : EqR ns m pc n (Int32.ofNat du) (zu2 R 10 x v) (zu S (48 + x) v) := by
  obtain ⟨⟨s0, s1, s2, s3, s4, s7, s5, s9, s8⟩, P, T, L, C, I, V, B⟩ := E
  refine ⟨⟨?_, ?_, ?_, ?_, ?_, ?_, ?_, ?_, ?_⟩, fun j hj => ?_, fun k hk => ?_, fun k2 hk2 => ?_, fun k p hk hp => ?_, fun j hj => ?_, fun j k hj hk => ?_, fun b hb => ?_⟩
  · simp (disch := omega) only [zu_same, zu_o, z2_s, z2_ne, s0]
  · simp (disch := omega) only [zu_same, zu_o, z2_s, z2_ne, s1]
  · simp (disch := omega) only [zu_same, zu_o, z2_s, z2_ne, s2]
  · simp (disch := omega) only [zu_same, zu_o, z2_s, z2_ne, s3]
  · simp (disch := omega) only [zu_same, zu_o, z2_s, z2_ne, s4]
  · simp (disch := omega) only [zu_same, zu_o, z2_s, z2_ne, s7]
  · simp (disch := omega) only [zu_same, zu_o, z2_s, z2_ne, s5]
  · simp (disch := omega) only [zu_same, zu_o, z2_s, z2_ne, s9]
  · simp (disch := omega) only [zu_same, zu_o, z2_s, z2_ne, s8]
  · simp (disch := omega) only [zu_same, zu_o, z2_s, z2_ne]
    exact P j hj
  · simp (disch := omega) only [zu_same, zu_o, z2_s, z2_ne]
    exact T k hk
  · simp (disch := omega) only [zu_same, zu_o, z2_s, z2_ne]
    exact L k2 hk2
  · simp (disch := omega) only [zu_same, zu_o, z2_s, z2_ne]
    exact C k p hk hp
  · obtain ⟨i1, i2, i3, i4⟩ := I j hj
    by_cases c : j = x
    · subst c
      rw [zu_o (by omega), zu_o (by omega), zu_same, zu_o (by omega), z2_o (by decide), z2_o (by decide), z2_s, z2_o (by decide)]
      exact ⟨i1, i2, rfl, i4⟩
    · simp (disch := omega) only [zu_same, zu_o, z2_s, z2_ne]
      exact ⟨i1, i2, i3, i4⟩
  · simp (disch := omega) only [zu_same, zu_o, z2_s, z2_ne]
    exact V j k hj hk
  · simp (disch := omega) only [zu_same, zu_o, z2_s, z2_ne]
    exact B b hb
theorem po_eq (E : EqR ns m pc n (Int32.ofNat du) R S) (h5 : R 0 5 = Int32.ofNat pc) (hx : x < 80) (hn : n ≤ 80) (hm : m ≤ 80) (hpc : pc < 10) (hs : ns ≤ 4) : EqR ns m (pc + 1) n (Int32.ofNat du) (gpoA R x pc) (zu (zu (zu S (48 + x) 3) (38 + pc) (Int32.ofNat x)) 7 (zu (zu S (48 + x) 3) (38 + pc) (Int32.ofNat x) 7 + 1)) := by
  obtain ⟨⟨s0, s1, s2, s3, s4, s7, s5, s9, s8⟩, P, T, L, C, I, V, B⟩ := E
  have e7 : zu (zu S (48 + x) 3) (38 + pc) (Int32.ofNat x) 7 + 1 = Int32.ofNat (pc + 1) := by
    rw [zu_o (by omega), zu_o (by omega), s7, h5]
    exact i32_add (b := 1)
  rw [e7]
  unfold gpoA
  refine ⟨⟨?_, ?_, ?_, ?_, ?_, ?_, ?_, ?_, ?_⟩, fun j hj => ?_, fun k hk => ?_, fun k2 hk2 => ?_, fun k p hk hp => ?_, fun j hj => ?_, fun j k hj hk => ?_, fun b hb => ?_⟩
  · simp (disch := omega) only [zu_same, zu_o, z2_s, z2_ne, s0]
  · simp (disch := omega) only [zu_same, zu_o, z2_s, z2_ne, s1]
  · simp (disch := omega) only [zu_same, zu_o, z2_s, z2_ne, s2]
  · simp (disch := omega) only [zu_same, zu_o, z2_s, z2_ne, s3]
  · simp (disch := omega) only [zu_same, zu_o, z2_s, z2_ne, s4]
  · simp (disch := omega) only [zu_same, zu_o, z2_s, z2_ne]
  · simp (disch := omega) only [zu_same, zu_o, z2_s, z2_ne, s5]
  · simp (disch := omega) only [zu_same, zu_o, z2_s, z2_ne, s9]
  · simp (disch := omega) only [zu_same, zu_o, z2_s, z2_ne, s8]
  · by_cases c : j = pc
    · subst c
      simp (disch := omega) only [zu_same, zu_o, z2_s, z2_ne]
    · simp (disch := omega) only [zu_same, zu_o, z2_s, z2_ne]
      exact P j (by omega)
  · simp (disch := omega) only [zu_same, zu_o, z2_s, z2_ne]
    exact T k hk
  · simp (disch := omega) only [zu_same, zu_o, z2_s, z2_ne]
    exact L k2 hk2
  · simp (disch := omega) only [zu_same, zu_o, z2_s, z2_ne]
    exact C k p hk hp
  · obtain ⟨i1, i2, i3, i4⟩ := I j hj
    by_cases c : j = x
    · subst c
      refine ⟨?_, ?_, ?_, ?_⟩
      · simp (disch := omega) only [zu_same, zu_o, z2_s, z2_ne, i1]
      · simp (disch := omega) only [zu_same, zu_o, z2_s, z2_ne, i2]
      · simp (disch := omega) only [zu_same, zu_o, z2_s, z2_ne]
      · simp (disch := omega) only [zu_same, zu_o, z2_s, z2_ne, i4]
    · simp (disch := omega) only [zu_same, zu_o, z2_s, z2_ne]
      exact ⟨i1, i2, i3, i4⟩
  · simp (disch := omega) only [zu_same, zu_o, z2_s, z2_ne]
    exact V j k hj hk
  · simp (disch := omega) only [zu_same, zu_o, z2_s, z2_ne]
    exact B b hb
end HN
