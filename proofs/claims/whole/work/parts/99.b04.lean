-- ===== an item goes into a box; a box is closed =====
section PC
variable {ns m i pc n q tm : Nat} {du : Nat} {R : Nat → Nat → Int32} {S : Nat → Int32} {k p x : Nat}
theorem EqJ_c {R' : Nat → Nat → Int32} {S' : Nat → Int32} (J : EqJ m R S) (h6 : S' 6 = S 6) (h : ∀ j, j < m → (R' 10 j = 1 ↔ R 10 j = 1)) : EqJ m R' S' := by
  unfold EqJ
  rw [h6, J]
  refine fl_congr _ _ _ fun j a _ hj => ?_
  unfold ftS
  by_cases c : R 10 j = 1
  · rw [if_pos c, if_pos ((h j (by omega)).mpr c)]
  · rw [if_neg c, if_neg (fun z => c ((h j (by omega)).mp z))]
/-- as IvR, but one item is in hand -/
def IvQ (ns m i pc n q tm : Nat) (R : Nat → Nat → Int32) : Prop := IvN ns m i pc n q tm R ∧ n + pc + 1 ≤ i ∧ IvT ns R ∧ IvC (i - pc - 1) R ∧ IvI ns m i R ∧ IvV ns m R ∧ IvP ns i pc R ∧ IvB ns n q tm R
theorem put_eq (E : EqR ns m pc n (Int32.ofNat du) R S) (hx : x < m) (hk : k < 4) (hp : p < 3) (hn : n ≤ 80) (hm : m ≤ 80) (hpc : pc ≤ 10) (hs : ns ≤ 4) : EqR ns m pc n (Int32.ofNat du) (gpA R k p x) (putA S k p x) := by
  obtain ⟨⟨s0, s1, s2, s3, s4, s7, s5, s9, s8⟩, P, T, L, C, I, V, B⟩ := E
  have hw := (I x hx).1
  have hc := C k p hk hp
  refine ⟨⟨?_, ?_, ?_, ?_, ?_, ?_, ?_, ?_, ?_⟩, fun j hj => ?_, fun k hk => ?_, fun k hk => ?_, fun k2 p2 hk2 hp2 => ?_, fun j hj => ?_, fun j k hj hk => ?_, fun b hb => ?_⟩
  · unfold gpA putA
    simp (disch := omega) only [zu_same, zu_o, z2_s, z2_ne, s0]
  · unfold gpA putA
    simp (disch := omega) only [zu_same, zu_o, z2_s, z2_ne, s1]
  · unfold gpA putA
    simp (disch := omega) only [zu_same, zu_o, z2_s, z2_ne, s2]
  · unfold gpA putA
    simp (disch := omega) only [zu_same, zu_o, z2_s, z2_ne, s3]
  · unfold gpA putA
    simp (disch := omega) only [zu_same, zu_o, z2_s, z2_ne, s4]
  · unfold gpA putA
    simp (disch := omega) only [zu_same, zu_o, z2_s, z2_ne, s7]
  · unfold gpA putA
    simp (disch := omega) only [zu_same, zu_o, z2_s, z2_ne, s5]
  · unfold gpA putA
    simp (disch := omega) only [zu_same, zu_o, z2_s, z2_ne, s9]
  · unfold gpA putA
    simp (disch := omega) only [zu_same, zu_o, z2_s, z2_ne, s8]
  · unfold gpA putA
    simp (disch := omega) only [zu_same, zu_o, z2_s, z2_ne]
    exact P j hj
  · unfold gpA putA
    simp (disch := omega) only [zu_same, zu_o, z2_s, z2_ne]
    exact T k hk
  · unfold gpA putA
    simp (disch := omega) only [zu_same, zu_o, z2_s, z2_ne]
    exact L k hk
  · unfold gpA putA
    by_cases c : 3 * k2 + p2 = 3 * k + p
    · rw [zu_o (by omega), zu_o (by omega), z2_ne (by omega), z2_ne (by omega), show 26 + 3 * k2 + p2 = 26 + 3 * k + p by omega, show k2 * 3 + p2 = k * 3 + p by omega, zu_same, z2_s, hc, hw]
    · simp (disch := omega) only [zu_same, zu_o, z2_s, z2_ne]
      exact C k2 p2 hk2 hp2
  · obtain ⟨i1, i2, i3, i4⟩ := I j hj
    unfold gpA putA
    by_cases c : j = x
    · subst c
      refine ⟨?_, ?_, ?_, ?_⟩
      · simp (disch := omega) only [zu_same, zu_o, z2_s, z2_ne, i1]
      · simp (disch := omega) only [zu_same, zu_o, z2_s, z2_ne, i2]
      · rw [zu_o (by omega), zu_same, z2_ne (by omega), z2_s]
      · rw [zu_same, z2_s]
    · simp (disch := omega) only [zu_same, zu_o, z2_s, z2_ne]
      exact ⟨i1, i2, i3, i4⟩
  · unfold gpA putA
    simp (disch := omega) only [zu_same, zu_o, z2_s, z2_ne]
    exact V j k hj hk
  · unfold gpA putA
    simp (disch := omega) only [zu_same, zu_o, z2_s, z2_ne]
    exact B b hb
theorem gpA_r {o : Nat} (h : o ≠ 6 ∧ o ≠ 10 ∧ o ≠ 11) : gpA R k p x o = R o := by
  unfold gpA
  rw [z2_o h.2.2, z2_o h.2.1, z2_o h.1]
theorem gpA_10 : gpA R k p x 10 x = 4 := by
  unfold gpA
  rw [z2_ne (by omega), z2_s]
theorem gpA_x {j : Nat} (hj : j ≠ x) : gpA R k p x 10 j = R 10 j ∧ gpA R k p x 11 j = R 11 j := by
  unfold gpA
  simp (disch := omega) only [zu_same, zu_o, z2_s, z2_ne]
  exact ⟨trivial, trivial⟩
theorem put_iv (A : IvQ ns m i pc n q tm R) (hx : x < i) (hk : k < 4) (hp : p < 3) (hnp : ∀ j, j < pc → R 1 j ≠ Int32.ofNat x) : IvR ns m i pc n q tm (gpA R k p x) := by
  obtain ⟨⟨⟨a0, a5, a7, a71, a13, a131⟩, n1, n2, n3, n4, n5, n6, n7⟩, sl, T, C, I, V, P, B⟩ := A
  have g0 : gpA R k p x 0 = R 0 := gpA_r (by omega)
  have g7 : gpA R k p x 7 = R 7 := gpA_r (by omega)
  have g13 : gpA R k p x 13 = R 13 := gpA_r (by omega)
  have g2 : gpA R k p x 2 = R 2 := gpA_r (by omega)
  have g8 : gpA R k p x 8 = R 8 := gpA_r (by omega)
  have g9 : gpA R k p x 9 = R 9 := gpA_r (by omega)
  have g1 : gpA R k p x 1 = R 1 := gpA_r (by omega)
  refine ⟨⟨⟨by rw [g0, a0], by rw [g0, a5], by rw [g7, a7], by rw [g7, a71], by rw [g13, a13], by rw [g13, a131]⟩, n1, n2, n3, n4, n5, n6, n7⟩, IvT_c (by rw [g0]) g2 T, fun k2 p2 hk2 hp2 => ?_, fun j hj => ?_, IvV_c (gpA_r (by omega)) V, ⟨fun j hj => ?_, fun j j' hj hj' e => ?_⟩, IvB_c (gpA_r (by omega)) (gpA_r (by omega)) (gpA_r (by omega)) (gpA_r (by omega)) (gpA_r (by omega)) B⟩
  · obtain ⟨c, hc, e⟩ := C k2 p2 hk2 hp2
    by_cases c1 : 3 * k2 + p2 = 3 * k + p
    · obtain ⟨w, hw, ew⟩ := (I x (by omega)).1
      refine ⟨c + w, by omega, ?_⟩
      unfold gpA
      rw [z2_ne (by omega), z2_ne (by omega), show k2 * 3 + p2 = k * 3 + p by omega, z2_s, ew, ← i32_add]
      rw [show k2 * 3 + p2 = k * 3 + p by omega] at e
      rw [e]
    · refine ⟨c, by omega, ?_⟩
      unfold gpA
      simp (disch := omega) only [zu_same, zu_o, z2_s, z2_ne]
      exact e
  · obtain ⟨w, s, fb, fr⟩ := I j hj
    rw [g8, g9]
    by_cases c : j = x
    · subst c
      exact ⟨w, s, Or.inr (Or.inl gpA_10), fun z => by omega⟩
    · obtain ⟨o1, o2⟩ := gpA_x (R := R) (k := k) (p := p) c
      rw [o1, o2]
      exact ⟨w, s, fb, fr⟩
  · obtain ⟨y, k', y1, y2, y3, y4, y5⟩ := P.1 j hj
    rw [g1, g9]
    refine ⟨y, k', y1, y2, y3, ?_, y5⟩
    have ne : y ≠ x := fun z => hnp j hj (by rw [y3, z])
    rw [(gpA_x ne).1, y4]
  · rw [g1] at e
    exact P.2 j j' hj hj' e
theorem put_J (J : EqJ m R S) (hp : p < 3) (hk : k < 4) (hx : x < 80) (h1 : R 10 x ≠ 1) : EqJ m (gpA R k p x) (putA S k p x) := by
  refine EqJ_c J ?_ (fun j hj => ?_)
  · unfold putA
    simp (disch := omega) only [zu_same, zu_o, z2_s, z2_ne]
  · by_cases c : j = x
    · subst c
      rw [gpA_10]
      exact ⟨fun z => absurd z (by decide), fun z => absurd z h1⟩
    · rw [(gpA_x c).1]
-- the items of a box that is closed
theorem mv_ok : ∀ (d j0 : Nat) (R : Nat → Nat → Int32) (S : Nat → Int32), j0 + d ≤ m → m ≤ 80 → (∀ j, j < m → S (48 + j) = R 10 j ∧ S (288 + j) = R 9 j ∧ S (128 + j) = R 11 j) →
    (∀ j, j < m → fl (mvStep k p n) d j0 S (48 + j) = fl (gmStep (Int32.ofNat k) (Int32.ofNat p) (Int32.ofNat n)) d j0 R 10 j ∧ fl (mvStep k p n) d j0 S (128 + j) = fl (gmStep (Int32.ofNat k) (Int32.ofNat p) (Int32.ofNat n)) d j0 R 11 j) ∧ (∀ a, a < 48 ∨ 208 ≤ a → fl (mvStep k p n) d j0 S a = S a) ∧ (∀ o, o ≠ 10 → o ≠ 11 → fl (gmStep (Int32.ofNat k) (Int32.ofNat p) (Int32.ofNat n)) d j0 R o = R o) ∧ ∀ j, (fl (gmStep (Int32.ofNat k) (Int32.ofNat p) (Int32.ofNat n)) d j0 R 10 j = R 10 j ∧ fl (gmStep (Int32.ofNat k) (Int32.ofNat p) (Int32.ofNat n)) d j0 R 11 j = R 11 j) ∨ (R 10 j = 4 ∧ fl (gmStep (Int32.ofNat k) (Int32.ofNat p) (Int32.ofNat n)) d j0 R 10 j = 5) := by
  intro d
  induction d with
  | zero =>
    intro j0 R S h1 h2 h3
    exact ⟨fun j hj => ⟨(h3 j hj).1, (h3 j hj).2.2⟩, fun a _ => rfl, fun o _ _ => rfl, fun j => Or.inl ⟨rfl, rfl⟩⟩
  | succ d ih =>
    intro j0 R S h1 h2 h3
    obtain ⟨e1, e2, e3⟩ := h3 j0 (by omega)
    show (∀ j, j < m → fl (mvStep k p n) d (j0 + 1) (mvStep k p n j0 S) (48 + j) = fl (gmStep (Int32.ofNat k) (Int32.ofNat p) (Int32.ofNat n)) d (j0 + 1) (gmStep (Int32.ofNat k) (Int32.ofNat p) (Int32.ofNat n) j0 R) 10 j ∧ fl (mvStep k p n) d (j0 + 1) (mvStep k p n j0 S) (128 + j) = fl (gmStep (Int32.ofNat k) (Int32.ofNat p) (Int32.ofNat n)) d (j0 + 1) (gmStep (Int32.ofNat k) (Int32.ofNat p) (Int32.ofNat n) j0 R) 11 j) ∧ (∀ a, a < 48 ∨ 208 ≤ a → fl (mvStep k p n) d (j0 + 1) (mvStep k p n j0 S) a = S a) ∧ (∀ o, o ≠ 10 → o ≠ 11 → fl (gmStep (Int32.ofNat k) (Int32.ofNat p) (Int32.ofNat n)) d (j0 + 1) (gmStep (Int32.ofNat k) (Int32.ofNat p) (Int32.ofNat n) j0 R) o = R o) ∧ ∀ j, (fl (gmStep (Int32.ofNat k) (Int32.ofNat p) (Int32.ofNat n)) d (j0 + 1) (gmStep (Int32.ofNat k) (Int32.ofNat p) (Int32.ofNat n) j0 R) 10 j = R 10 j ∧ fl (gmStep (Int32.ofNat k) (Int32.ofNat p) (Int32.ofNat n)) d (j0 + 1) (gmStep (Int32.ofNat k) (Int32.ofNat p) (Int32.ofNat n) j0 R) 11 j = R 11 j) ∨ (R 10 j = 4 ∧ fl (gmStep (Int32.ofNat k) (Int32.ofNat p) (Int32.ofNat n)) d (j0 + 1) (gmStep (Int32.ofNat k) (Int32.ofNat p) (Int32.ofNat n) j0 R) 10 j = 5)
    by_cases c : R 10 j0 = 4 ∧ R 9 j0 = Int32.ofNat k ∧ R 11 j0 = Int32.ofNat p
    · have g1 : gmStep (Int32.ofNat k) (Int32.ofNat p) (Int32.ofNat n) j0 R = zu2 (zu2 R 10 j0 5) 11 j0 (Int32.ofNat n) := by
        unfold gmStep opB
        rw [decide_eq_true c, if_pos rfl]
      have g2 : mvStep k p n j0 S = zu (zu S (48 + j0) 5) (128 + j0) (Int32.ofNat n) := by
        unfold mvStep
        rw [e1, e2, e3, if_pos c]
      rw [g1, g2]
      obtain ⟨r1, r2, r3, r4⟩ := ih (j0 + 1) (zu2 (zu2 R 10 j0 5) 11 j0 (Int32.ofNat n)) (zu (zu S (48 + j0) 5) (128 + j0) (Int32.ofNat n)) (by omega) h2 (fun j hj => by
        obtain ⟨f1, f2, f3⟩ := h3 j hj
        by_cases cj : j = j0
        · subst cj
          refine ⟨?_, ?_, ?_⟩
          · rw [zu_o (by omega), zu_same, z2_ne (by omega), z2_s]
          · simp (disch := omega) only [zu_same, zu_o, z2_s, z2_ne, f2]
          · rw [zu_same, z2_s]
        · simp (disch := omega) only [zu_same, zu_o, z2_s, z2_ne]
          exact ⟨f1, f2, f3⟩)
      refine ⟨r1, fun a ha => ?_, fun o h10 h11 => ?_, fun j => ?_⟩
      · rw [r2 a ha]
        simp (disch := omega) only [zu_same, zu_o, z2_s, z2_ne]
      · rw [r3 o h10 h11, z2_o h11, z2_o h10]
      · by_cases cj : j = j0
        · subst cj
          refine Or.inr ⟨c.1, ?_⟩
          rcases r4 j with ⟨z, -⟩ | ⟨z, -⟩
          · rw [z, z2_ne (by omega), z2_s]
          · rw [z2_ne (by omega), z2_s] at z
            exact absurd z (by decide)
        · have := r4 j
          rw [z2_ne (by omega), z2_ne (by omega), z2_ne (by omega), z2_ne (by omega)] at this
          exact this
    · have g1 : gmStep (Int32.ofNat k) (Int32.ofNat p) (Int32.ofNat n) j0 R = R := by
        unfold gmStep opB
        rw [decide_eq_false c, if_neg Bool.false_ne_true]
      have g2 : mvStep k p n j0 S = S := by
        unfold mvStep
        rw [e1, e2, e3, if_neg c]
      rw [g1, g2]
      exact ih (j0 + 1) R S (by omega) h2 h3
section CL5
variable {due : Int32} {a : Nat}
theorem cl5_o (h8 : a ≠ 8) (h1 : a ≠ 688 + n) (h2 : a ≠ 768 + n) (h3 : a ≠ 848 + n) (h4 : a ≠ 928 + n) (h5 : a ≠ 1008 + n) (h6 : a ≠ 1088 + n) (h7 : a ≠ 26 + 3 * k + p) : clA5 due S k p n a = S a := by
  unfold clA5 clA4 clA3 clA2 clA1
  rw [zu_o h7, zu_o h6, zu_o h5, zu_o h4, zu_o h3, zu_o h2, zu_o h1, zu_o h8]
theorem cl5_v (hk : k < 4) (hp : p < 3) (hn : n < 80) : clA5 due S k p n 8 = S 8 + 1 ∧ clA5 due S k p n (688 + n) = Int32.ofNat k ∧ clA5 due S k p n (768 + n) = S (26 + 3 * k + p) ∧ clA5 due S k p n (848 + n) = S (26 + 3 * k + p) - S (10 + k) ∧ clA5 due S k p n (928 + n) = S 0 ∧ clA5 due S k p n (1008 + n) = S 0 + due ∧ clA5 due S k p n (1088 + n) = -1 ∧ clA5 due S k p n (26 + 3 * k + p) = 0 := by
  unfold clA5 clA4 clA3 clA2 clA1
  refine ⟨?_, ?_, ?_, ?_, ?_, ?_, ?_, ?_⟩
  · simp (disch := omega) only [zu_same, zu_o, z2_s, z2_ne]
  · simp (disch := omega) only [zu_same, zu_o, z2_s, z2_ne]
  · simp (disch := omega) only [zu_same, zu_o, z2_s, z2_ne]
  · simp (disch := omega) only [zu_same, zu_o, z2_s, z2_ne]
  · simp (disch := omega) only [zu_same, zu_o, z2_s, z2_ne]
  · simp (disch := omega) only [zu_same, zu_o, z2_s, z2_ne]
  · simp (disch := omega) only [zu_same, zu_o, z2_s, z2_ne]
  · simp (disch := omega) only [zu_same, zu_o, z2_s, z2_ne]
theorem gbA_r {o : Nat} {kk w t u : Int32} (h : o < 13 ∨ 18 < o) : gbA R n kk w t u o = R o := by
  unfold gbA
  rw [z2_o (by omega), z2_o (by omega), z2_o (by omega), z2_o (by omega), z2_o (by omega), z2_o (by omega)]
theorem gbA_o {o j : Nat} {kk w t u : Int32} (h : o ≠ 13) (hj : j ≠ n) : gbA R n kk w t u o j = R o j := by
  unfold gbA
  simp (disch := omega) only [zu_same, zu_o, z2_s, z2_ne]
theorem gbA_v {kk w t u : Int32} : gbA R n kk w t u 14 n = kk ∧ gbA R n kk w t u 15 n = w ∧ gbA R n kk w t u 16 n = t ∧ gbA R n kk w t u 17 n = u ∧ gbA R n kk w t u 18 n = -1 ∧ gbA R n kk w t u 13 0 = Int32.ofNat (n + 1) ∧ gbA R n kk w t u 13 1 = R 13 1 := by
  unfold gbA
  refine ⟨?_, ?_, ?_, ?_, ?_, ?_, ?_⟩
  · simp (disch := omega) only [zu_same, zu_o, z2_s, z2_ne]
  · simp (disch := omega) only [zu_same, zu_o, z2_s, z2_ne]
  · simp (disch := omega) only [zu_same, zu_o, z2_s, z2_ne]
  · simp (disch := omega) only [zu_same, zu_o, z2_s, z2_ne]
  · simp (disch := omega) only [zu_same, zu_o, z2_s, z2_ne]
  · simp (disch := omega) only [zu_same, zu_o, z2_s, z2_ne]
  · simp (disch := omega) only [zu_same, zu_o, z2_s, z2_ne]
end CL5
end PC
