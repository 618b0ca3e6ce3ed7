-- ===== a box is closed =====
section CB
variable {ns m i pc n q tm : Nat} {du : Nat} {R : Nat → Nat → Int32} {S : Nat → Int32} {k p x : Nat}
theorem cl_eq (E : EqR ns m pc n (Int32.ofNat du) R S) (h13 : R 13 0 = Int32.ofNat n) (hk : k < ns) (hp : p < 3) (hn : n < 80) (hm : m ≤ 80) (hpc : pc ≤ 10) (hs : ns ≤ 4) : EqR ns m pc (n + 1) (Int32.ofNat du) (gclA R k p n m) (closeF (Int32.ofNat du) S k p n m) := by
  obtain ⟨⟨s0, s1, s2, s3, s4, s7, s5, s9, s8⟩, P, T, L, C, I, V, B⟩ := E
  obtain ⟨v8, v1, v2, v3, v4, v5, v6, v7⟩ := cl5_v (S := S) (due := Int32.ofNat du) (k := k) (p := p) (n := n) (by omega) hp hn
  obtain ⟨w14, w15, w16, w17, w18, w13, w131⟩ := gbA_v (R := R) (n := n) (kk := Int32.ofNat k) (w := R 6 (k * 3 + p)) (t := R 2 k) (u := R 0 0)
  obtain ⟨m1, m2, m3, m4⟩ := mv_ok (k := k) (p := p) (n := n) m 0 (gbA R n (Int32.ofNat k) (R 6 (k * 3 + p)) (R 2 k) (R 0 0)) (clA5 (Int32.ofNat du) S k p n) (by omega) hm (fun j hj => by
    obtain ⟨i1, i2, i3, i4⟩ := I j hj
    rw [gbA_r (by omega), gbA_r (by omega), gbA_r (by omega), cl5_o (by omega) (by omega) (by omega) (by omega) (by omega) (by omega) (by omega) (by omega), cl5_o (by omega) (by omega) (by omega) (by omega) (by omega) (by omega) (by omega) (by omega), cl5_o (by omega) (by omega) (by omega) (by omega) (by omega) (by omega) (by omega) (by omega)]
    exact ⟨i3, i2, i4⟩)
  have so : ∀ a, a < 48 ∨ 208 ≤ a → a ≠ 8 → a ≠ 688 + n → a ≠ 768 + n → a ≠ 848 + n → a ≠ 928 + n → a ≠ 1008 + n → a ≠ 1088 + n → a ≠ 26 + 3 * k + p → closeF (Int32.ofNat du) S k p n m a = S a := fun a h0 h8 h1 h2 h3 h4 h5 h6 h7 => by
    unfold closeF
    rw [m2 a h0, cl5_o h8 h1 h2 h3 h4 h5 h6 h7]
  have sv : ∀ a, a < 48 ∨ 208 ≤ a → closeF (Int32.ofNat du) S k p n m a = clA5 (Int32.ofNat du) S k p n a := fun a h0 => by
    unfold closeF
    exact m2 a h0
  have ro : ∀ o, o ≠ 6 → gclA R k p n m o = fl (gmStep (Int32.ofNat k) (Int32.ofNat p) (Int32.ofNat n)) m 0 (gbA R n (Int32.ofNat k) (R 6 (k * 3 + p)) (R 2 k) (R 0 0)) o := fun o h6 => by
    unfold gclA
    rw [z2_o h6]
  have rv : ∀ o, o ≠ 6 → o ≠ 10 → o ≠ 11 → gclA R k p n m o = gbA R n (Int32.ofNat k) (R 6 (k * 3 + p)) (R 2 k) (R 0 0) o := fun o h6 h10 h11 => by
    rw [ro o h6, m3 o h10 h11]
  have rr : ∀ o, o < 13 → o ≠ 6 → o ≠ 10 → o ≠ 11 → gclA R k p n m o = R o := fun o h13 h6 h10 h11 => by
    rw [rv o h6 h10 h11, gbA_r (Or.inl h13)]
  have hc := C k p (by omega) hp
  refine ⟨⟨?_, ?_, ?_, ?_, ?_, ?_, ?_, ?_, ?_⟩, fun j hj => ?_, fun k2 hk2 => ?_, fun k2 hk2 => ?_, fun k2 p2 hk2 hp2 => ?_, fun j hj => ?_, fun j k2 hj hk2 => ?_, fun b hb => ?_⟩
  · rw [so 0 (by omega) (by omega) (by omega) (by omega) (by omega) (by omega) (by omega) (by omega) (by omega), rr 0 (by omega) (by omega) (by omega) (by omega), s0]
  · rw [so 1 (by omega) (by omega) (by omega) (by omega) (by omega) (by omega) (by omega) (by omega) (by omega), rr 0 (by omega) (by omega) (by omega) (by omega), s1]
  · rw [so 2 (by omega) (by omega) (by omega) (by omega) (by omega) (by omega) (by omega) (by omega) (by omega), rr 0 (by omega) (by omega) (by omega) (by omega), s2]
  · rw [so 3 (by omega) (by omega) (by omega) (by omega) (by omega) (by omega) (by omega) (by omega) (by omega), rr 0 (by omega) (by omega) (by omega) (by omega), s3]
  · rw [so 4 (by omega) (by omega) (by omega) (by omega) (by omega) (by omega) (by omega) (by omega) (by omega), rr 0 (by omega) (by omega) (by omega) (by omega), s4]
  · rw [so 7 (by omega) (by omega) (by omega) (by omega) (by omega) (by omega) (by omega) (by omega) (by omega), rr 0 (by omega) (by omega) (by omega) (by omega), s7]
  · rw [so 5 (by omega) (by omega) (by omega) (by omega) (by omega) (by omega) (by omega) (by omega) (by omega), rr 7 (by omega) (by omega) (by omega) (by omega), s5]
  · rw [so 9 (by omega) (by omega) (by omega) (by omega) (by omega) (by omega) (by omega) (by omega) (by omega), rr 7 (by omega) (by omega) (by omega) (by omega), s9]
  · rw [sv 8 (by omega), v8, rv 13 (by omega) (by omega) (by omega), w13, s8, h13]
    exact i32_add (b := 1)
  · rw [so _ (by omega) (by omega) (by omega) (by omega) (by omega) (by omega) (by omega) (by omega) (by omega), rr 1 (by omega) (by omega) (by omega) (by omega)]
    exact P j hj
  · rw [so (10 + k2) (by omega) (by omega) (by omega) (by omega) (by omega) (by omega) (by omega) (by omega) (by omega), so (14 + k2) (by omega) (by omega) (by omega) (by omega) (by omega) (by omega) (by omega) (by omega) (by omega), rr 2 (by omega) (by omega) (by omega) (by omega), rr 3 (by omega) (by omega) (by omega) (by omega)]
    exact T k2 hk2
  · rw [so (18 + k2) (by omega) (by omega) (by omega) (by omega) (by omega) (by omega) (by omega) (by omega) (by omega), so (22 + k2) (by omega) (by omega) (by omega) (by omega) (by omega) (by omega) (by omega) (by omega) (by omega), rr 4 (by omega) (by omega) (by omega) (by omega), rr 5 (by omega) (by omega) (by omega) (by omega)]
    exact L k2 hk2
  · by_cases c : 3 * k2 + p2 = 3 * k + p
    · rw [show 26 + 3 * k2 + p2 = 26 + 3 * k + p by omega, show k2 * 3 + p2 = k * 3 + p by omega, sv _ (by omega), v7]
      unfold gclA
      rw [z2_s]
    · rw [so _ (by omega) (by omega) (by omega) (by omega) (by omega) (by omega) (by omega) (by omega) (by omega), C k2 p2 hk2 hp2]
      unfold gclA
      rw [z2_ne (by omega), m3 6 (by decide) (by decide), gbA_r (by omega)]
  · obtain ⟨i1, i2, i3, i4⟩ := I j hj
    rw [so (208 + j) (by omega) (by omega) (by omega) (by omega) (by omega) (by omega) (by omega) (by omega) (by omega), so (288 + j) (by omega) (by omega) (by omega) (by omega) (by omega) (by omega) (by omega) (by omega) (by omega), rr 8 (by omega) (by omega) (by omega) (by omega), rr 9 (by omega) (by omega) (by omega) (by omega), ro 10 (by decide), ro 11 (by decide)]
    exact ⟨i1, i2, (m1 j hj).1, (m1 j hj).2⟩
  · rw [so _ (by omega) (by omega) (by omega) (by omega) (by omega) (by omega) (by omega) (by omega) (by omega), rr 12 (by omega) (by omega) (by omega) (by omega)]
    exact V j k2 hj hk2
  · rw [rv 14 (by omega) (by omega) (by omega), rv 15 (by omega) (by omega) (by omega), rv 16 (by omega) (by omega) (by omega), rv 17 (by omega) (by omega) (by omega), rv 18 (by omega) (by omega) (by omega)]
    by_cases c : b = n
    · subst c
      rw [w14, w15, w16, w17, w18, sv _ (by omega), sv (768 + b) (by omega), sv (848 + b) (by omega), sv (928 + b) (by omega), sv (1008 + b) (by omega), sv (1088 + b) (by omega), v1, v2, v3, v4, v5, v6, hc, (T k hk).1, s0]
      exact ⟨rfl, rfl, rfl, rfl, rfl, rfl⟩
    · rw [gbA_o (by decide) c, gbA_o (by decide) c, gbA_o (by decide) c, gbA_o (by decide) c, gbA_o (by decide) c, so (688 + b) (by omega) (by omega) (by omega) (by omega) (by omega) (by omega) (by omega) (by omega) (by omega), so (768 + b) (by omega) (by omega) (by omega) (by omega) (by omega) (by omega) (by omega) (by omega) (by omega), so (848 + b) (by omega) (by omega) (by omega) (by omega) (by omega) (by omega) (by omega) (by omega) (by omega), so (928 + b) (by omega) (by omega) (by omega) (by omega) (by omega) (by omega) (by omega) (by omega) (by omega), so (1008 + b) (by omega) (by omega) (by omega) (by omega) (by omega) (by omega) (by omega) (by omega) (by omega), so (1088 + b) (by omega) (by omega) (by omega) (by omega) (by omega) (by omega) (by omega) (by omega) (by omega)]
      exact B b (by omega)
theorem cl_fate (hm : m ≤ 80) : (∀ o, o < 13 → o ≠ 6 → o ≠ 10 → o ≠ 11 → gclA R k p n m o = R o) ∧ (∀ j, (gclA R k p n m 10 j = R 10 j ∧ gclA R k p n m 11 j = R 11 j) ∨ (R 10 j = 4 ∧ gclA R k p n m 10 j = 5)) ∧ ∀ o, o ≠ 6 → o ≠ 10 → o ≠ 11 → gclA R k p n m o = gbA R n (Int32.ofNat k) (R 6 (k * 3 + p)) (R 2 k) (R 0 0) o := by
  have q := mv_ok (k := k) (p := p) (n := n) (m := m) m 0 (gbA R n (Int32.ofNat k) (R 6 (k * 3 + p)) (R 2 k) (R 0 0)) (fun a => if a < 128 then gbA R n (Int32.ofNat k) (R 6 (k * 3 + p)) (R 2 k) (R 0 0) 10 (a - 48) else if a < 208 then gbA R n (Int32.ofNat k) (R 6 (k * 3 + p)) (R 2 k) (R 0 0) 11 (a - 128) else gbA R n (Int32.ofNat k) (R 6 (k * 3 + p)) (R 2 k) (R 0 0) 9 (a - 288)) (by omega) hm (fun j hj => by
    refine ⟨?_, ?_, ?_⟩
    · show (if 48 + j < 128 then _ else _) = _
      rw [if_pos (by omega), show 48 + j - 48 = j by omega]
    · show (if 288 + j < 128 then _ else if 288 + j < 208 then _ else _) = _
      rw [if_neg (by omega), if_neg (by omega), show 288 + j - 288 = j by omega]
    · show (if 128 + j < 128 then _ else if 128 + j < 208 then _ else _) = _
      rw [if_neg (by omega), if_pos (by omega), show 128 + j - 128 = j by omega])
  obtain ⟨-, -, m3, m4⟩ := q
  have rv : ∀ o, o ≠ 6 → o ≠ 10 → o ≠ 11 → gclA R k p n m o = gbA R n (Int32.ofNat k) (R 6 (k * 3 + p)) (R 2 k) (R 0 0) o := fun o h6 h10 h11 => by
    unfold gclA
    rw [z2_o h6, m3 o h10 h11]
  refine ⟨fun o h13 h6 h10 h11 => ?_, fun j => ?_, rv⟩
  · rw [rv o h6 h10 h11, gbA_r (Or.inl h13)]
  · have := m4 j
    rw [gbA_r (by omega), gbA_r (by omega)] at this
    unfold gclA
    rw [z2_o (by decide), z2_o (by decide)]
    exact this
theorem cl_iv (A : IvR ns m i pc n q tm R) (sl : n + pc + 1 ≤ i) (hk : k < ns) (hp : p < 3) (hc : ¬ R 6 (k * 3 + p) < R 2 k) : IvR ns m i pc (n + 1) q tm (gclA R k p n m) := by
  obtain ⟨⟨⟨a0, a5, a7, a71, a13, a131⟩, n1, n2, n3, n4, n5, n6, n7⟩, T, C, I, V, P, B⟩ := A
  obtain ⟨rr, f4, rv⟩ := cl_fate (R := R) (k := k) (p := p) (n := n) n2
  obtain ⟨w14, w15, w16, w17, w18, w13, w131⟩ := gbA_v (R := R) (n := n) (kk := Int32.ofNat k) (w := R 6 (k * 3 + p)) (t := R 2 k) (u := R 0 0)
  have r0 := rr 0 (by decide) (by decide) (by decide) (by decide)
  have r7 := rr 7 (by decide) (by decide) (by decide) (by decide)
  have r9 := rr 9 (by decide) (by decide) (by decide) (by decide)
  have r1 := rr 1 (by decide) (by decide) (by decide) (by decide)
  have r13 := rv 13 (by decide) (by decide) (by decide)
  obtain ⟨c, c1, c2⟩ := C k p (by omega) hp
  obtain ⟨t, t1, t2, t3⟩ := T.2 k hk
  have tc : t ≤ c := by
    rw [c2, t3, i32_lt (by omega) (by omega)] at hc
    omega
  refine ⟨⟨⟨by rw [r0, a0], by rw [r0, a5], by rw [r7, a7], by rw [r7, a71], by rw [r13, w13], by rw [r13, w131, a131]⟩, n1, n2, by omega, n4, by omega, n6, n7⟩, IvT_c (by rw [r0]) (rr 2 (by decide) (by decide) (by decide) (by decide)) T, fun k2 p2 hk2 hp2 => ?_, fun j hj => ?_, IvV_c (rr 12 (by decide) (by decide) (by decide) (by decide)) V, ⟨fun j hj => ?_, fun j j' hj hj' e => ?_⟩, fun b hb => ?_, fun b b' hb hb' => ?_⟩
  · by_cases e : 3 * k2 + p2 = 3 * k + p
    · refine ⟨0, Nat.zero_le _, ?_⟩
      unfold gclA
      rw [show k2 * 3 + p2 = k * 3 + p by omega, z2_s]
      rfl
    · obtain ⟨y, y1, y2⟩ := C k2 p2 hk2 hp2
      refine ⟨y, y1, ?_⟩
      have z := rv
      unfold gclA
      rw [z2_ne (by omega)]
      have g6 : gclA R k p n m 6 (k2 * 3 + p2) = fl (gmStep (Int32.ofNat k) (Int32.ofNat p) (Int32.ofNat n)) m 0 (gbA R n (Int32.ofNat k) (R 6 (k * 3 + p)) (R 2 k) (R 0 0)) 6 (k2 * 3 + p2) := by
        unfold gclA
        rw [z2_ne (by omega)]
      have := fl_inv (f := gmStep (Int32.ofNat k) (Int32.ofNat p) (Int32.ofNat n)) (I := fun _ Q => Q 6 = gbA R n (Int32.ofNat k) (R 6 (k * 3 + p)) (R 2 k) (R 0 0) 6) m 0 (gbA R n (Int32.ofNat k) (R 6 (k * 3 + p)) (R 2 k) (R 0 0)) rfl (fun j Q _ _ hQ => by
        unfold gmStep
        split
        · rw [z2_o (by decide), z2_o (by decide), hQ]
        · exact hQ)
      rw [this, gbA_r (by omega), y2]
  · obtain ⟨w, s, fb, fr⟩ := I j hj
    rw [rr 8 (by decide) (by decide) (by decide) (by decide), r9]
    rcases f4 j with ⟨z1, z2⟩ | ⟨z1, z2⟩
    · rw [z1, z2]
      exact ⟨w, s, fb, fr⟩
    · refine ⟨w, s, Or.inr (Or.inr z2), fun z => ?_⟩
      rw [fr z] at z1
      exact absurd z1 (by decide)
  · obtain ⟨y, k', y1, y2, y3, y4, y5⟩ := P.1 j hj
    rw [r1, r9]
    refine ⟨y, k', y1, y2, y3, ?_, y5⟩
    rcases f4 y with ⟨z1, -⟩ | ⟨z1, -⟩
    · rw [z1, y4]
    · rw [y4] at z1
      exact absurd z1 (by decide)
  · rw [r1] at e
    exact P.2 j j' hj hj' e
  · rw [rv 14 (by decide) (by decide) (by decide), rv 15 (by decide) (by decide) (by decide), rv 16 (by decide) (by decide) (by decide), rv 17 (by decide) (by decide) (by decide), rv 18 (by decide) (by decide) (by decide)]
    by_cases e : b = n
    · subst e
      rw [w14, w15, w16, w17, w18]
      exact ⟨⟨k, hk, rfl⟩, ⟨c, t, c2, t3, t1, t2, tc, by omega⟩, ⟨tm, Nat.le_refl _, a0⟩, fun z => by omega, fun _ => rfl⟩
    · rw [gbA_o (by decide) e, gbA_o (by decide) e, gbA_o (by decide) e, gbA_o (by decide) e, gbA_o (by decide) e]
      exact B.1 b (by omega)
  · rw [rv 17 (by decide) (by decide) (by decide)]
    by_cases e : b' = n
    · subst e
      by_cases e2 : b = b'
      · rw [e2]
        exact Nat.le_refl _
      · obtain ⟨-, -, ⟨s, s1, s2⟩, -⟩ := B.1 b (by omega)
        rw [w17, gbA_o (by decide) e2, a0, s2, i32_nat (by omega), i32_nat (by omega)]
        exact s1
    · rw [gbA_o (by decide) e, gbA_o (by decide) (by omega)]
      exact B.2 b b' hb (by omega)
theorem cl_J (J : EqJ m R S) (E : EqR ns m pc n (Int32.ofNat du) R S) (hk : k < 4) (hp : p < 3) (hn : n < 80) (hm : m ≤ 80) : EqJ m (gclA R k p n m) (closeF (Int32.ofNat du) S k p n m) := by
  obtain ⟨-, f4, -⟩ := cl_fate (R := R) (k := k) (p := p) (n := n) hm
  obtain ⟨-, -, -, -, -, I, -⟩ := E
  obtain ⟨-, m2, -⟩ := mv_ok (k := k) (p := p) (n := n) m 0 (gbA R n (Int32.ofNat k) (R 6 (k * 3 + p)) (R 2 k) (R 0 0)) (clA5 (Int32.ofNat du) S k p n) (by omega) hm (fun j hj => by
    obtain ⟨i1, i2, i3, i4⟩ := I j hj
    rw [gbA_r (by omega), gbA_r (by omega), gbA_r (by omega), cl5_o (by omega) (by omega) (by omega) (by omega) (by omega) (by omega) (by omega) (by omega), cl5_o (by omega) (by omega) (by omega) (by omega) (by omega) (by omega) (by omega) (by omega), cl5_o (by omega) (by omega) (by omega) (by omega) (by omega) (by omega) (by omega) (by omega)]
    exact ⟨i3, i2, i4⟩)
  refine EqJ_c J ?_ (fun j hj => ?_)
  · unfold closeF
    rw [m2 6 (by omega), cl5_o (by omega) (by omega) (by omega) (by omega) (by omega) (by omega) (by omega) (by omega)]
  · rcases f4 j with ⟨z1, -⟩ | ⟨z1, z2⟩
    · rw [z1]
    · rw [z1, z2]
      exact ⟨fun z => absurd z (by decide), fun z => absurd z (by decide)⟩
end CB
