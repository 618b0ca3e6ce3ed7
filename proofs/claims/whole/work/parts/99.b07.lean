-- ===== the next item is handled =====
section HN
variable {ns m i pc n q tm st : Nat} {du : Nat} {R D : Nat → Nat → Int32} {S pl : Nat → Int32} {k p x : Nat}
theorem eq_6 {v : Int32} (E : EqR ns m pc n (Int32.ofNat du) R S) (hn : n ≤ 80) (hm : m ≤ 80) (hpc : pc ≤ 10) (hs : ns ≤ 4) : EqR ns m pc n (Int32.ofNat du) R (zu S 6 v) := by
  obtain ⟨⟨s0, s1, s2, s3, s4, s7, s5, s9, s8⟩, P, T, L, C, I, V, B⟩ := E
  have e : ∀ a, a ≠ 6 → zu S 6 v a = S a := fun a h => zu_o h
  refine ⟨⟨?_, ?_, ?_, ?_, ?_, ?_, ?_, ?_, ?_⟩, fun j hj => ?_, fun k hk => ?_, fun k hk => ?_, fun k p hk hp => ?_, fun j hj => ?_, fun j k hj hk => ?_, fun b hb => ?_⟩
  · rw [e _ (by omega), s0]
  · rw [e _ (by omega), s1]
  · rw [e _ (by omega), s2]
  · rw [e _ (by omega), s3]
  · rw [e _ (by omega), s4]
  · rw [e _ (by omega), s7]
  · rw [e _ (by omega), s5]
  · rw [e _ (by omega), s9]
  · rw [e _ (by omega), s8]
  · rw [e _ (by omega)]
    exact P j hj
  · rw [e _ (by omega), e _ (by omega)]
    exact T k hk
  · rw [e _ (by omega), e _ (by omega)]
    exact L k hk
  · rw [e _ (by omega)]
    exact C k p hk hp
  · rw [e _ (by omega), e _ (by omega), e _ (by omega), e _ (by omega)]
    exact I j hj
  · rw [e _ (by omega)]
    exact V j k hj hk
  · rw [e _ (by omega), e _ (by omega), e _ (by omega), e _ (by omega), e _ (by omega), e _ (by omega)]
    exact B b hb
theorem ft_1 {y : Int32} : ∀ (d j : Nat) (a : Int32), fl (ftS R y) d j (a + 1) = fl (ftS R y) d j a + 1 := by
  intro d
  induction d with
  | zero => intro j a; rfl
  | succ d ih =>
    intro j a
    show fl (ftS R y) d (j + 1) (a + 1 + (if R 10 j = y then 1 else 0)) = fl (ftS R y) d (j + 1) (a + (if R 10 j = y then 1 else 0)) + 1
    rw [← ih, Int32.add_assoc, Int32.add_comm 1, ← Int32.add_assoc]
theorem ft_up (h0 : R 10 x ≠ 1) : ∀ (d j : Nat) (a : Int32), j ≤ x → x < j + d → fl (ftS (zu2 R 10 x 1) 1) d j a = fl (ftS R 1) d j a + 1 := by
  intro d
  induction d with
  | zero => intro j a h1 h2; omega
  | succ d ih =>
    intro j a h1 h2
    show fl (ftS (zu2 R 10 x 1) 1) d (j + 1) (a + (if zu2 R 10 x 1 10 j = 1 then 1 else 0)) = fl (ftS R 1) d (j + 1) (a + (if R 10 j = 1 then 1 else 0)) + 1
    by_cases c : j = x
    · subst c
      rw [z2_s, if_pos rfl, if_neg h0, ← ft_1]
      have z : a + (0 : Int32) + 1 = a + 1 := by rw [Int32.add_zero]
      rw [z]
      refine fl_congr _ _ _ fun j2 y hj _ => ?_
      unfold ftS
      rw [z2_ne (by omega)]
    · rw [z2_ne (by omega)]
      exact ih (j + 1) _ (by omega) (by omega)
theorem gh_q (A : IvR ns m i pc n q tm R) (hi : i < m) : IvQ ns m (i + 1) pc n q tm (ghA R) := by
  obtain ⟨⟨⟨a0, a5, a7, a71, a13, a131⟩, n1, n2, n3, n4, n5, n6, n7⟩, T, C, I, V, P, B⟩ := A
  have g : ∀ o, o ≠ 7 → ghA R o = R o := fun o h => ghA_r h
  refine ⟨⟨⟨by rw [g 0 (by decide), a0], by rw [g 0 (by decide), a5], by rw [ghA_v.1, a7], ?_, by rw [g 13 (by decide), a13], by rw [g 13 (by decide), a131]⟩, hi, n2, by omega, n4, n5, n6, n7⟩, by omega, IvT_c (by rw [g 0 (by decide)]) (g 2 (by decide)) T, ?_, fun j hj => ?_, IvV_c (g 12 (by decide)) V, ⟨fun j hj => ?_, fun j j' hj hj' e => ?_⟩, IvB_c (g 14 (by decide)) (g 15 (by decide)) (g 16 (by decide)) (g 17 (by decide)) (g 18 (by decide)) B⟩
  · rw [ghA_v.2, a71]
    exact i32_add (b := 1)
  · rw [show i + 1 - pc - 1 = i - pc by omega]
    exact IvC_c (g 6 (by decide)) C
  · rw [g 8 (by decide), g 9 (by decide), g 10 (by decide), g 11 (by decide)]
    obtain ⟨w, s, fb, fr⟩ := I j hj
    exact ⟨w, s, fb, fun z => fr (by omega)⟩
  · rw [g 1 (by decide), g 9 (by decide), g 10 (by decide)]
    obtain ⟨y, k', y1, y2⟩ := P.1 j hj
    exact ⟨y, k', by omega, y2⟩
  · rw [g 1 (by decide)] at e
    exact P.2 j j' hj hj' e
theorem IvQ_c {R' : Nat → Nat → Int32} (A : IvQ ns m i pc n q tm R) (h : ∀ o, o ≠ 3 → o ≠ 4 → o ≠ 5 → R' o = R o) : IvQ ns m i pc n q tm R' := by
  obtain ⟨⟨⟨a0, a5, a7, a71, a13, a131⟩, N⟩, sl, T, C, I, V, P, B⟩ := A
  have g : ∀ o, (o ≠ 3 ∧ o ≠ 4 ∧ o ≠ 5) → R' o = R o := fun o z => h o z.1 z.2.1 z.2.2
  exact ⟨⟨⟨by rw [g 0 (by decide), a0], by rw [g 0 (by decide), a5], by rw [g 7 (by decide), a7], by rw [g 7 (by decide), a71], by rw [g 13 (by decide), a13], by rw [g 13 (by decide), a131]⟩, N⟩, sl, IvT_c (by rw [g 0 (by decide)]) (g 2 (by decide)) T, IvC_c (g 6 (by decide)) C, IvI_c (g 8 (by decide)) (g 9 (by decide)) (g 10 (by decide)) (g 11 (by decide)) I, IvV_c (g 12 (by decide)) V, IvP_c (g 1 (by decide)) (g 9 (by decide)) (g 10 (by decide)) P, IvB_c (g 14 (by decide)) (g 15 (by decide)) (g 16 (by decide)) (g 17 (by decide)) (g 18 (by decide)) B⟩
theorem IvR_c {R' : Nat → Nat → Int32} (A : IvR ns m i pc n q tm R) (h : ∀ o, o ≠ 3 → o ≠ 4 → o ≠ 5 → R' o = R o) : IvR ns m i pc n q tm R' := by
  obtain ⟨⟨⟨a0, a5, a7, a71, a13, a131⟩, N⟩, T, C, I, V, P, B⟩ := A
  have g : ∀ o, (o ≠ 3 ∧ o ≠ 4 ∧ o ≠ 5) → R' o = R o := fun o z => h o z.1 z.2.1 z.2.2
  exact ⟨⟨⟨by rw [g 0 (by decide), a0], by rw [g 0 (by decide), a5], by rw [g 7 (by decide), a7], by rw [g 7 (by decide), a71], by rw [g 13 (by decide), a13], by rw [g 13 (by decide), a131]⟩, N⟩, IvT_c (by rw [g 0 (by decide)]) (g 2 (by decide)) T, IvC_c (g 6 (by decide)) C, IvI_c (g 8 (by decide)) (g 9 (by decide)) (g 10 (by decide)) (g 11 (by decide)) I, IvV_c (g 12 (by decide)) V, IvP_c (g 1 (by decide)) (g 9 (by decide)) (g 10 (by decide)) P, IvB_c (g 14 (by decide)) (g 15 (by decide)) (g 16 (by decide)) (g 17 (by decide)) (g 18 (by decide)) B⟩
/-- the item in hand is rejected or discarded -/
theorem qv_iv {v : Int32} (A : IvQ ns m i pc n q tm R) (hv : v = 1 ∨ v = 2) (hx : x < i) (hb : R 11 x = -1) (hnp : ∀ j, j < pc → R 1 j ≠ Int32.ofNat x) : IvR ns m i pc n q tm (zu2 R 10 x v) := by
  obtain ⟨⟨⟨a0, a5, a7, a71, a13, a131⟩, N⟩, sl, T, C, I, V, P, B⟩ := A
  have g : ∀ o, o ≠ 10 → zu2 R 10 x v o = R o := fun o z => z2_o z
  refine ⟨⟨⟨by rw [g 0 (by decide), a0], by rw [g 0 (by decide), a5], by rw [g 7 (by decide), a7], by rw [g 7 (by decide), a71], by rw [g 13 (by decide), a13], by rw [g 13 (by decide), a131]⟩, N⟩, IvT_c (by rw [g 0 (by decide)]) (g 2 (by decide)) T, ?_, fun j hj => ?_, IvV_c (g 12 (by decide)) V, ⟨fun j hj => ?_, fun j j' hj hj' e => ?_⟩, IvB_c (g 14 (by decide)) (g 15 (by decide)) (g 16 (by decide)) (g 17 (by decide)) (g 18 (by decide)) B⟩
  · intro k p hk hp
    rw [g 6 (by decide)]
    obtain ⟨c, c1, c2⟩ := C k p hk hp
    exact ⟨c, by omega, c2⟩
  · rw [g 8 (by decide), g 9 (by decide), g 11 (by decide)]
    obtain ⟨w, s, fb, fr⟩ := I j hj
    by_cases c : j = x
    · subst c
      rw [z2_s]
      refine ⟨w, s, Or.inl ⟨?_, hb⟩, fun z => by omega⟩
      rcases hv with e | e
      · exact Or.inr (Or.inl e)
      · exact Or.inr (Or.inr (Or.inl e))
    · rw [z2_ne (by omega)]
      exact ⟨w, s, fb, fr⟩
  · obtain ⟨y, k', y1, y2, y3, y4, y5⟩ := P.1 j hj
    rw [g 1 (by decide), g 9 (by decide)]
    refine ⟨y, k', y1, y2, y3, ?_, y5⟩
    have ne : y ≠ x := fun z => hnp j hj (by rw [y3, z])
    rw [z2_ne (by omega), y4]
  · rw [g 1 (by decide)] at e
    exact P.2 j j' hj hj' e
/-- the item in hand goes into the pool -/
theorem po_iv (A : IvQ ns m i pc n q tm R) (hpc : pc < 10) (hx : x < i) (hb : R 11 x = -1) (hk : k < ns) (h9 : R 9 x = Int32.ofNat k) (hnp : ∀ j, j < pc → R 1 j ≠ Int32.ofNat x) : IvR ns m i (pc + 1) n q tm (gpoA R x pc) := by
  obtain ⟨⟨⟨a0, a5, a7, a71, a13, a131⟩, n1, n2, n3, n4, n5, n6, n7⟩, sl, T, C, I, V, P, B⟩ := A
  have g : ∀ o, (o ≠ 0 ∧ o ≠ 1 ∧ o ≠ 10) → gpoA R x pc o = R o := fun o z => by
    unfold gpoA
    rw [z2_o z.2.2, z2_o z.1, z2_o z.2.1]
  have g0 : ∀ j, j ≠ 5 → gpoA R x pc 0 j = R 0 j := fun j hj => by
    unfold gpoA
    simp (disch := omega) only [zu_same, zu_o, z2_s, z2_ne]
  have g10 : ∀ j, j ≠ x → gpoA R x pc 10 j = R 10 j := fun j hj => by
    unfold gpoA
    simp (disch := omega) only [zu_same, zu_o, z2_s, z2_ne]
  have v5 : gpoA R x pc 0 5 = Int32.ofNat (pc + 1) := by
    unfold gpoA
    simp (disch := omega) only [zu_same, zu_o, z2_s, z2_ne]
  have v10 : gpoA R x pc 10 x = 3 := by
    unfold gpoA
    simp (disch := omega) only [zu_same, zu_o, z2_s, z2_ne]
  have v1 : gpoA R x pc 1 pc = Int32.ofNat x := by
    unfold gpoA
    simp (disch := omega) only [zu_same, zu_o, z2_s, z2_ne]
  have g1 : ∀ j, j ≠ pc → gpoA R x pc 1 j = R 1 j := fun j hj => by
    unfold gpoA
    simp (disch := omega) only [zu_same, zu_o, z2_s, z2_ne]
  refine ⟨⟨⟨by rw [g0 0 (by decide), a0], v5, by rw [g 7 (by decide), a7], by rw [g 7 (by decide), a71], by rw [g 13 (by decide), a13], by rw [g 13 (by decide), a131]⟩, n1, n2, by omega, by omega, n5, n6, n7⟩, IvT_c (g0 2 (by decide)) (g 2 (by decide)) T, ?_, fun j hj => ?_, IvV_c (g 12 (by decide)) V, ⟨fun j hj => ?_, fun j j' hj hj' e => ?_⟩, IvB_c (g 14 (by decide)) (g 15 (by decide)) (g 16 (by decide)) (g 17 (by decide)) (g 18 (by decide)) B⟩
  · rw [show i - (pc + 1) = i - pc - 1 by omega]
    exact IvC_c (g 6 (by decide)) C
  · rw [g 8 (by decide), g 9 (by decide), g 11 (by decide)]
    obtain ⟨w, s, fb, fr⟩ := I j hj
    by_cases c : j = x
    · subst c
      rw [v10]
      exact ⟨w, s, Or.inl ⟨Or.inr (Or.inr (Or.inr rfl)), hb⟩, fun z => by omega⟩
    · rw [g10 j c]
      exact ⟨w, s, fb, fr⟩
  · rw [g 9 (by decide)]
    by_cases c : j = pc
    · subst c
      exact ⟨x, k, hx, hk, v1, v10, h9⟩
    · obtain ⟨y, k', y1, y2, y3, y4, y5⟩ := P.1 j (by omega)
      rw [g1 j c]
      refine ⟨y, k', y1, y2, y3, ?_, y5⟩
      have ne : y ≠ x := fun z => hnp j (by omega) (by rw [y3, z])
      rw [g10 y ne, y4]
  · by_cases c : j = pc
    · by_cases c' : j' = pc
      · omega
      · rw [c, v1, g1 j' c'] at e
        exact absurd e.symm (hnp j' (by omega))
    · by_cases c' : j' = pc
      · rw [c', v1, g1 j c] at e
        exact absurd e (hnp j (by omega))
      · rw [g1 j c, g1 j' c'] at e
        exact P.2 j j' (by omega) (by omega) e
theorem pl_none {nb : Nat} (h : placeF S pl k i nb = none) : S 7 < pl 2 := by
  unfold placeF plEnd at h
  split at h
  · cases h
  · cases h
  · split at h
    · cases h
    · rename_i c
      by_cases d : pl 2 ≤ S 7
      · exact absurd (decide_eq_true d) c
      · exact Int32.not_le.mp d
theorem pl_lt {nb : Nat} (hnb : nb ≤ 3) : ∀ p, gchF R k (R 8 x) (D 0 2) nb = some p → p < 3 := by
  intro p h
  unfold gchF at h
  split at h
  · rename_i y e
    cases h
    exact ssGo_lt nb 0 (none, 0) (by omega) (fun c q => by cases q) _ e
  · split at h
    · rename_i y e
      cases h
      exact prGo_lt nb 0 (none, 0) (by omega) (fun c q => by cases q) _ e
    · split at h
      · cases h
      · exact ssGo_lt nb 0 (none, 0) (by omega) (fun c q => by cases q) _ h
end HN
