-- ===== copies of a state; small changes =====
section CO
variable {ns m i pc n q tm : Nat} {du : Nat} {R R' : Nat → Nat → Int32} {S S' : Nat → Int32} {k p : Nat}
theorem EqR_of (E : EqR ns m pc n (Int32.ofNat du) R S) (hn : n ≤ 80) (hm : m ≤ 80) (hpc : pc ≤ 10) (hs : ns ≤ 4) (hR : ∀ o j, j < lims m n o → R' o j = R o j) (hS : ∀ a, a < 1168 → S' a = S a) : EqR ns m pc n (Int32.ofNat du) R' S' := by
  obtain ⟨⟨s0, s1, s2, s3, s4, s7, s5, s9, s8⟩, P, T, L, C, I, V, B⟩ := E
  refine ⟨⟨?_, ?_, ?_, ?_, ?_, ?_, ?_, ?_, ?_⟩, fun j hj => ?_, fun k hk => ?_, fun k hk => ?_, fun k p hk hp => ?_, fun j hj => ?_, fun j k hj hk => ?_, fun b hb => ?_⟩
  · rw [hS 0 (by decide), hR 0 0 (show 0 < 6 by decide), s0]
  · rw [hS 1 (by decide), hR 0 1 (show 1 < 6 by decide), s1]
  · rw [hS 2 (by decide), hR 0 2 (show 2 < 6 by decide), s2]
  · rw [hS 3 (by decide), hR 0 3 (show 3 < 6 by decide), s3]
  · rw [hS 4 (by decide), hR 0 4 (show 4 < 6 by decide), s4]
  · rw [hS 7 (by decide), hR 0 5 (show 5 < 6 by decide), s7]
  · rw [hS 5 (by decide), hR 7 1 (show 1 < 2 by decide), s5]
  · rw [hS 9 (by decide), hR 7 0 (show 0 < 2 by decide), s9]
  · rw [hS 8 (by decide), hR 13 0 (show 0 < 2 by decide), s8]
  · rw [hS _ (by omega), hR 1 j (show j < 10 by omega)]
    exact P j hj
  · rw [hS _ (by omega), hS _ (by omega), hR 2 k (show k < 4 by omega), hR 3 k (show k < 4 by omega)]
    exact T k hk
  · rw [hS _ (by omega), hS _ (by omega), hR 4 k (show k < 4 by omega), hR 5 k (show k < 4 by omega)]
    exact L k hk
  · rw [hS _ (by omega), hR 6 (k * 3 + p) (show k * 3 + p < 12 by omega)]
    exact C k p hk hp
  · rw [hS _ (by omega), hS _ (by omega), hS _ (by omega), hS _ (by omega), hR 8 j hj, hR 9 j hj, hR 10 j hj, hR 11 j hj]
    exact I j hj
  · rw [hS _ (by omega), hR 12 (j * 4 + k) (show j * 4 + k < m * 4 by omega)]
    exact V j k hj hk
  · rw [hS _ (by omega), hS _ (by omega), hS _ (by omega), hS _ (by omega), hS _ (by omega), hS _ (by omega), hR 14 b hb, hR 15 b hb, hR 16 b hb, hR 17 b hb, hR 18 b hb]
    exact B b hb
theorem IvR_of (A : IvR ns m i pc n q tm R) (hR : ∀ o j, j < lims m n o → R' o j = R o j) : IvR ns m i pc n q tm R' := by
  obtain ⟨⟨⟨a0, a5, a7, a71, a13, a131⟩, N⟩, T, C, I, V, P, B⟩ := A
  obtain ⟨n1, n2, n3, n4, n5, n6, n7⟩ := N
  refine ⟨⟨⟨?_, ?_, ?_, ?_, ?_, ?_⟩, n1, n2, n3, n4, n5, n6, n7⟩, ⟨?_, fun k hk => ?_⟩, fun k p hk hp => ?_, fun j hj => ?_, fun j k hj hk => ?_, ⟨fun j hj => ?_, fun j j' hj hj' e => ?_⟩, fun b hb => ?_, fun b b' hb hb' => ?_⟩
  · rw [hR 0 0 (show 0 < 6 by decide), a0]
  · rw [hR 0 5 (show 5 < 6 by decide), a5]
  · rw [hR 7 0 (show 0 < 2 by decide), a7]
  · rw [hR 7 1 (show 1 < 2 by decide), a71]
  · rw [hR 13 0 (show 0 < 2 by decide), a13]
  · rw [hR 13 1 (show 1 < 2 by decide), a131]
  · rw [hR 0 2 (show 2 < 6 by decide)]
    exact T.1
  · rw [hR 2 k (show k < 4 by omega)]
    exact T.2 k hk
  · rw [hR 6 (k * 3 + p) (show k * 3 + p < 12 by omega)]
    exact C k p hk hp
  · rw [hR 8 j hj, hR 9 j hj, hR 10 j hj, hR 11 j hj]
    exact I j hj
  · rw [hR 12 (j * 4 + k) (show j * 4 + k < m * 4 by omega)]
    exact V j k hj hk
  · obtain ⟨y, k', y1, y2⟩ := P.1 j hj
    rw [hR 1 j (show j < 10 by omega)]
    refine ⟨y, k', y1, ?_⟩
    rw [hR 10 y (show y < m by omega), hR 9 y (show y < m by omega)]
    exact y2
  · rw [hR 1 j (show j < 10 by omega), hR 1 j' (show j' < 10 by omega)] at e
    exact P.2 j j' hj hj' e
  · rw [hR 14 b hb, hR 15 b hb, hR 16 b hb, hR 17 b hb, hR 18 b hb]
    exact B.1 b hb
  · rw [hR 17 b (show b < n by omega), hR 17 b' hb']
    exact B.2 b b' hb hb'
theorem RS_of (Z : RS ns du m tm R S) (hR : ∀ o j, j < lims m (cN (R 13 0)) o → R' o j = R o j) (hS : ∀ a, a < 1168 → S' a = S a) : RS ns du m tm R' S' := by
  obtain ⟨i, pc, n, q, E, A, J⟩ := Z
  obtain ⟨n1, n2, n3, n4, n5, n6, n7⟩ := A.1.2
  have c : cN (R 13 0) = n := by rw [A.1.1.2.2.2.2.1]; exact cN_of (by omega)
  rw [c] at hR
  refine ⟨i, pc, n, q, EqR_of E (by omega) (by omega) (by omega) (by omega) hR hS, IvR_of A hR, EqJ_c J (hS 6 (by decide)) (fun j hj => by rw [hR 10 j hj])⟩
/-- the rule -/
theorem ru_ok {v : Int32} (Z : RS ns du m tm R S) : RS ns du m tm (zu2 R 0 1 v) (zu S 1 v) := by
  obtain ⟨i, pc, n, q, E, A, J⟩ := Z
  have N := A.1.2
  obtain ⟨⟨s0, s1, s2, s3, s4, s7, s5, s9, s8⟩, P, T, L, C, I, V, B⟩ := E
  have g : ∀ o, o ≠ 0 → zu2 R 0 1 v o = R o := fun o h => z2_o h
  refine ⟨i, pc, n, q, ⟨⟨?_, ?_, ?_, ?_, ?_, ?_, ?_, ?_, ?_⟩, fun j hj => ?_, fun k hk => ?_, fun k hk => ?_, fun k p hk hp => ?_, fun j hj => ?_, fun j k hj hk => ?_, fun b hb => ?_⟩, ?_, EqJ_c J (zu_o (by decide)) (fun j hj => by rw [g 10 (by decide)])⟩
  · simp (disch := omega) only [zu_same, zu_o, z2_s, z2_ne, s0]
  · simp (disch := omega) only [zu_same, zu_o, z2_s, z2_ne]
  · simp (disch := omega) only [zu_same, zu_o, z2_s, z2_ne, s2]
  · simp (disch := omega) only [zu_same, zu_o, z2_s, z2_ne, s3]
  · simp (disch := omega) only [zu_same, zu_o, z2_s, z2_ne, s4]
  · simp (disch := omega) only [zu_same, zu_o, z2_s, z2_ne, s7]
  · simp (disch := omega) only [zu_same, zu_o, z2_s, z2_ne, s5]
  · simp (disch := omega) only [zu_same, zu_o, z2_s, z2_ne, s9]
  · simp (disch := omega) only [zu_same, zu_o, z2_s, z2_ne, s8]
  · simp (disch := omega) only [zu_same, zu_o, z2_s, z2_ne]
    exact P j hj
  · simp (disch := omega) only [zu_same, zu_o, z2_s, z2_ne]
    exact T k hk
  · simp (disch := omega) only [zu_same, zu_o, z2_s, z2_ne]
    exact L k hk
  · simp (disch := omega) only [zu_same, zu_o, z2_s, z2_ne]
    exact C k p hk hp
  · simp (disch := omega) only [zu_same, zu_o, z2_s, z2_ne]
    exact I j hj
  · simp (disch := omega) only [zu_same, zu_o, z2_s, z2_ne]
    exact V j k hj hk
  · simp (disch := omega) only [zu_same, zu_o, z2_s, z2_ne]
    exact B b hb
  · obtain ⟨⟨⟨a0, a5, a7, a71, a13, a131⟩, N⟩, T, C, I, V, P, B⟩ := A
    exact ⟨⟨⟨by rw [z2_ne (by omega), a0], by rw [z2_ne (by omega), a5], by rw [g 7 (by decide), a7], by rw [g 7 (by decide), a71], by rw [g 13 (by decide), a13], by rw [g 13 (by decide), a131]⟩, N⟩, IvT_c (z2_ne (by omega)) (g 2 (by decide)) T, IvC_c (g 6 (by decide)) C, IvI_c (g 8 (by decide)) (g 9 (by decide)) (g 10 (by decide)) (g 11 (by decide)) I, IvV_c (g 12 (by decide)) V, IvP_c (g 1 (by decide)) (g 9 (by decide)) (g 10 (by decide)) P, IvB_c (g 14 (by decide)) (g 15 (by decide)) (g 16 (by decide)) (g 17 (by decide)) (g 18 (by decide)) B⟩
/-- the limit -/
theorem li_ok {l : Nat} (hl : l ≤ 9999) (Z : RS ns du m tm R S) : RS ns du m tm (zu2 R 0 2 (Int32.ofNat l)) (zu S 2 (Int32.ofNat l)) := by
  obtain ⟨i, pc, n, q, E, A, J⟩ := Z
  have N := A.1.2
  obtain ⟨⟨s0, s1, s2, s3, s4, s7, s5, s9, s8⟩, P, T, L, C, I, V, B⟩ := E
  have g : ∀ o, o ≠ 0 → zu2 R 0 2 (Int32.ofNat l) o = R o := fun o h => z2_o h
  refine ⟨i, pc, n, q, ⟨⟨?_, ?_, ?_, ?_, ?_, ?_, ?_, ?_, ?_⟩, fun j hj => ?_, fun k hk => ?_, fun k hk => ?_, fun k p hk hp => ?_, fun j hj => ?_, fun j k hj hk => ?_, fun b hb => ?_⟩, ?_, EqJ_c J (zu_o (by decide)) (fun j hj => by rw [g 10 (by decide)])⟩
  · simp (disch := omega) only [zu_same, zu_o, z2_s, z2_ne, s0]
  · simp (disch := omega) only [zu_same, zu_o, z2_s, z2_ne, s1]
  · simp (disch := omega) only [zu_same, zu_o, z2_s, z2_ne]
  · simp (disch := omega) only [zu_same, zu_o, z2_s, z2_ne, s3]
  · simp (disch := omega) only [zu_same, zu_o, z2_s, z2_ne, s4]
  · simp (disch := omega) only [zu_same, zu_o, z2_s, z2_ne, s7]
  · simp (disch := omega) only [zu_same, zu_o, z2_s, z2_ne, s5]
  · simp (disch := omega) only [zu_same, zu_o, z2_s, z2_ne, s9]
  · simp (disch := omega) only [zu_same, zu_o, z2_s, z2_ne, s8]
  · simp (disch := omega) only [zu_same, zu_o, z2_s, z2_ne]
    exact P j hj
  · simp (disch := omega) only [zu_same, zu_o, z2_s, z2_ne]
    exact T k hk
  · simp (disch := omega) only [zu_same, zu_o, z2_s, z2_ne]
    exact L k hk
  · simp (disch := omega) only [zu_same, zu_o, z2_s, z2_ne]
    exact C k p hk hp
  · simp (disch := omega) only [zu_same, zu_o, z2_s, z2_ne]
    exact I j hj
  · simp (disch := omega) only [zu_same, zu_o, z2_s, z2_ne]
    exact V j k hj hk
  · simp (disch := omega) only [zu_same, zu_o, z2_s, z2_ne]
    exact B b hb
  · obtain ⟨⟨⟨a0, a5, a7, a71, a13, a131⟩, N⟩, T, C, I, V, P, B⟩ := A
    refine ⟨⟨⟨by rw [z2_ne (by omega), a0], by rw [z2_ne (by omega), a5], by rw [g 7 (by decide), a7], by rw [g 7 (by decide), a71], by rw [g 13 (by decide), a13], by rw [g 13 (by decide), a131]⟩, N⟩, ⟨⟨l, hl, z2_s⟩, ?_⟩, IvC_c (g 6 (by decide)) C, IvI_c (g 8 (by decide)) (g 9 (by decide)) (g 10 (by decide)) (g 11 (by decide)) I, IvV_c (g 12 (by decide)) V, IvP_c (g 1 (by decide)) (g 9 (by decide)) (g 10 (by decide)) P, IvB_c (g 14 (by decide)) (g 15 (by decide)) (g 16 (by decide)) (g 17 (by decide)) (g 18 (by decide)) B⟩
    rw [g 2 (by decide)]
    exact T.2
/-- a target -/
theorem tg_ok {t : Nat} (hk : k < ns) (h1 : 1 ≤ t) (h2 : t ≤ 30000) (Z : RS ns du m tm R S) : RS ns du m tm (zu2 R 2 k (Int32.ofNat t)) (zu S (10 + k) (Int32.ofNat t)) := by
  obtain ⟨i, pc, n, q, E, A, J⟩ := Z
  have N := A.1.2
  obtain ⟨⟨s0, s1, s2, s3, s4, s7, s5, s9, s8⟩, P, T, L, C, I, V, B⟩ := E
  have g : ∀ o, o ≠ 2 → zu2 R 2 k (Int32.ofNat t) o = R o := fun o h => z2_o h
  refine ⟨i, pc, n, q, ⟨⟨?_, ?_, ?_, ?_, ?_, ?_, ?_, ?_, ?_⟩, fun j hj => ?_, fun k2 hk2 => ?_, fun k hk => ?_, fun k p hk hp => ?_, fun j hj => ?_, fun j k hj hk => ?_, fun b hb => ?_⟩, ?_, EqJ_c J (zu_o (by omega)) (fun j hj => by rw [g 10 (by decide)])⟩
  · simp (disch := omega) only [zu_same, zu_o, z2_s, z2_ne, s0]
  · simp (disch := omega) only [zu_same, zu_o, z2_s, z2_ne, s1]
  · simp (disch := omega) only [zu_same, zu_o, z2_s, z2_ne, s2]
  · simp (disch := omega) only [zu_same, zu_o, z2_s, z2_ne, s3]
  · simp (disch := omega) only [zu_same, zu_o, z2_s, z2_ne, s4]
  · simp (disch := omega) only [zu_same, zu_o, z2_s, z2_ne, s7]
  · simp (disch := omega) only [zu_same, zu_o, z2_s, z2_ne, s5]
  · simp (disch := omega) only [zu_same, zu_o, z2_s, z2_ne, s9]
  · simp (disch := omega) only [zu_same, zu_o, z2_s, z2_ne, s8]
  · simp (disch := omega) only [zu_same, zu_o, z2_s, z2_ne]
    exact P j hj
  · by_cases c : k2 = k
    · subst c
      rw [zu_same, z2_s, zu_o (by omega), z2_o (by decide)]
      exact ⟨rfl, (T k2 hk2).2⟩
    · simp (disch := omega) only [zu_same, zu_o, z2_s, z2_ne]
      exact T k2 hk2
  · simp (disch := omega) only [zu_same, zu_o, z2_s, z2_ne]
    exact L k hk
  · simp (disch := omega) only [zu_same, zu_o, z2_s, z2_ne]
    exact C k p hk hp
  · simp (disch := omega) only [zu_same, zu_o, z2_s, z2_ne]
    exact I j hj
  · simp (disch := omega) only [zu_same, zu_o, z2_s, z2_ne]
    exact V j k hj hk
  · simp (disch := omega) only [zu_same, zu_o, z2_s, z2_ne]
    exact B b hb
  · obtain ⟨⟨⟨a0, a5, a7, a71, a13, a131⟩, N⟩, T, C, I, V, P, B⟩ := A
    refine ⟨⟨⟨by rw [g 0 (by decide), a0], by rw [g 0 (by decide), a5], by rw [g 7 (by decide), a7], by rw [g 7 (by decide), a71], by rw [g 13 (by decide), a13], by rw [g 13 (by decide), a131]⟩, N⟩, ⟨by rw [g 0 (by decide)]; exact T.1, fun k2 hk2 => ?_⟩, IvC_c (g 6 (by decide)) C, IvI_c (g 8 (by decide)) (g 9 (by decide)) (g 10 (by decide)) (g 11 (by decide)) I, IvV_c (g 12 (by decide)) V, IvP_c (g 1 (by decide)) (g 9 (by decide)) (g 10 (by decide)) P, IvB_c (g 14 (by decide)) (g 15 (by decide)) (g 16 (by decide)) (g 17 (by decide)) (g 18 (by decide)) B⟩
    by_cases c : k2 = k
    · subst c
      exact ⟨t, h1, h2, z2_s⟩
    · rw [z2_ne (by omega)]
      exact T.2 k2 hk2
/-- a quota is moved -/
theorem qu_ok {f t : Nat} {v : Int32} (hf : f < ns) (ht : t < ns) (Z : RS ns du m tm R S) : RS ns du m tm (shQ R f t v) (shM S f t v) := by
  obtain ⟨i, pc, n, q, E, A, J⟩ := Z
  have N := A.1.2
  obtain ⟨⟨s0, s1, s2, s3, s4, s7, s5, s9, s8⟩, P, T, L, C, I, V, B⟩ := E
  have g : ∀ o, o ≠ 3 → shQ R f t v o = R o := fun o h => by
    unfold shQ
    rw [z2_o h, z2_o h]
  have e : ∀ a, a < 14 ∨ 18 ≤ a → shM S f t v a = S a := fun a h => by
    unfold shM
    rw [zu_o (by omega), zu_o (by omega)]
  refine ⟨i, pc, n, q, ⟨⟨?_, ?_, ?_, ?_, ?_, ?_, ?_, ?_, ?_⟩, fun j hj => ?_, fun k2 hk2 => ?_, fun k hk => ?_, fun k p hk hp => ?_, fun j hj => ?_, fun j k hj hk => ?_, fun b hb => ?_⟩, IvR_c A (fun o h _ _ => g o h), EqJ_c J (e 6 (by decide)) (fun j hj => by rw [g 10 (by decide)])⟩
  · rw [e _ (by omega), g _ (by omega), s0]
  · rw [e _ (by omega), g _ (by omega), s1]
  · rw [e _ (by omega), g _ (by omega), s2]
  · rw [e _ (by omega), g _ (by omega), s3]
  · rw [e _ (by omega), g _ (by omega), s4]
  · rw [e _ (by omega), g _ (by omega), s7]
  · rw [e _ (by omega), g _ (by omega), s5]
  · rw [e _ (by omega), g _ (by omega), s9]
  · rw [e _ (by omega), g _ (by omega), s8]
  · rw [e _ (by omega), g _ (by omega)]
    exact P j hj
  · rw [e _ (by omega), g 2 (by omega)]
    refine ⟨(T k2 hk2).1, ?_⟩
    unfold shQ shM
    by_cases c : k2 = t
    · subst c
      rw [zu_same, z2_s]
      by_cases c2 : k2 = f
      · subst c2
        rw [zu_same, z2_s, (T k2 hk2).2]
      · rw [zu_o (by omega), z2_ne (by omega), (T k2 hk2).2]
    · rw [zu_o (by omega), z2_ne (by omega)]
      by_cases c2 : k2 = f
      · subst c2
        rw [zu_same, z2_s, (T k2 hk2).2]
      · rw [zu_o (by omega), z2_ne (by omega), (T k2 hk2).2]
  · rw [e _ (by omega), e _ (by omega), g _ (by omega), g _ (by omega)]
    exact L k hk
  · rw [e _ (by omega), g _ (by omega)]
    exact C k p hk hp
  · rw [e _ (by omega), e _ (by omega), e _ (by omega), e _ (by omega), g _ (by omega), g _ (by omega), g _ (by omega), g _ (by omega)]
    exact I j hj
  · rw [e _ (by omega), g _ (by omega)]
    exact V j k hj hk
  · rw [e _ (by omega), e _ (by omega), e _ (by omega), e _ (by omega), e _ (by omega), e _ (by omega), g _ (by omega), g _ (by omega), g _ (by omega), g _ (by omega), g _ (by omega)]
    exact B b hb
end CO
