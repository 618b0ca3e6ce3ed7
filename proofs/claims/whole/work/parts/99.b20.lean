-- ===== after a load class and model are in one state =====
section LR
variable {q : Ps} {D R : Nat → Nat → Int32} {S P : Nat → Int32}
theorem ld_pl (G : pG q) (h1 : 1 ≤ q.ns) (CAq : CA q D) (hP : ∀ k, k < 26 → P k = q.pl k) : ∃ du, PlR q.ns q.st du D P ∧ q.pl 6 = Int32.ofNat du := by
  obtain ⟨g0, g1, g2, g3, ⟨du, d1, d2⟩, g5, -⟩ := G
  obtain ⟨⟨i1, i2, i3, i4, i5, i6⟩, ⟨a1, a2⟩, a3, a4, a5, a6⟩ := CAq
  refine ⟨du, ⟨⟨fun k hk => ?_, ?_⟩, ⟨a3, ?_, a4, ?_, i1, i2, h1⟩, fun k hk => ?_, fun k hk => ?_, ⟨?_, d1⟩, ?_, ?_, ?_⟩, d2⟩
  · rw [a1 k hk, hP k (by omega)]
  · rw [a2, hP 25 (by decide)]
  · rw [hP 16 (by decide), i4]
  · rw [hP 7 (by decide), i5]
  · rw [hP _ (by omega), hP _ (by omega)]
    exact a5 k hk
  · rw [hP _ (by omega), hP _ (by omega)]
    exact ⟨(a6 k hk).1, (a6 k hk).2, (g5 k hk).1, (g5 k hk).2.1⟩
  · rw [hP 6 (by decide), d2]
  · rw [hP 0 (by decide)]
    exact g1
  · rw [hP 1 (by decide)]
    exact g2
  · rw [hP 2 (by decide)]
    exact g3
theorem ld_rs {du : Nat} (G : pG q) (h1 : 1 ≤ q.ns) (hd9 : q.dr 9 = Int32.ofNat q.ni) (CBq : CB q R) (CIq : CI q R) (CCq : CC R) (hS : ∀ k, k < 1168 → S k = enR q.dr q.pl q.ns q.ni 80 k) : RS q.ns du q.ni 0 R S := by
  obtain ⟨g0, g1, g2, g3, g4, g5, g6, g7, g8⟩ := G
  obtain ⟨b1, b2⟩ := CBq
  obtain ⟨c0, c1⟩ := CIq
  obtain ⟨x0, x1, x3, x4, x5, xl, xc, x71, x13, x131⟩ := CCq
  have so : ∀ a, a < 128 ∨ 368 ≤ a → a < 1168 → S a = q.dr a := fun a h ha => by
    rw [hS a ha, enR_o (by decide) h]
  have s1 : ∀ j, 208 ≤ j → j < 288 → S j = q.dr j := fun j h2 h3 => by
    rw [hS j (by omega)]
    unfold enR
    rw [if_neg (by omega), if_neg (by omega)]
  have sz : ∀ a, a ≠ 2 → a ≠ 9 → (a < 10 ∨ 18 ≤ a) → a < 128 → S a = 0 := fun a h2 h9 h3 h4 => by
    rw [so a (by omega) (by omega)]
    exact g7 a h2 h9 h3 (by omega)
  have O : ∀ j, j < q.ni → ScO q.ns R q.dr j := fun j hj k hk => by
    obtain ⟨-, c3, -⟩ := c1 j hj
    obtain ⟨-, y2, -⟩ := g8 j hj
    rw [c3 k hk]
    exact ⟨rfl, (y2 k hk).1, (y2 k hk).2⟩
  have sp : ∀ j, j < q.ni → S (288 + j) = R 9 j := fun j hj => by
    obtain ⟨-, c3, c4, -⟩ := c1 j hj
    obtain ⟨-, -, y3⟩ := g8 j hj
    rw [hS _ (by omega), c4]
    unfold enR
    rw [if_neg (by omega), if_pos (by omega), show 288 + j - 288 = j by omega]
    rcases y3 with ⟨z1, z2⟩ | ⟨z1, k, z2, z3⟩
    · rw [if_pos z1]
      exact (dt_z (fun k hk => by rw [c3 k hk]; exact z2 k hk) (sc_fav (O j hj) ⟨h1, g0.1⟩ (by omega)).2.1).symm
    · rw [if_neg z1]
      exact (dt_eq (pl := q.pl) (O j hj) ⟨h1, g0.1⟩ (by omega) rfl z2 (by rw [c3 k z2]; exact z3)).symm
  refine ⟨0, 0, 0, 0, ⟨⟨?_, ?_, ?_, ?_, ?_, ?_, ?_, ?_, ?_⟩, fun j hj => absurd hj (Nat.not_lt_zero _), fun k hk => ?_, fun k hk => ?_, fun k p hk hp => ?_, fun j hj => ?_, fun j k hj hk => ?_, fun b hb => absurd hb (Nat.not_lt_zero _)⟩, ⟨⟨⟨x0, x5, c0, x71, x13, x131⟩, Nat.zero_le _, by omega, Nat.le_refl _, by decide, Nat.le_refl _, by decide, g0.1⟩, ⟨?_, fun k hk => ?_⟩, fun k p hk hp => ?_, fun j hj => ?_, fun j k hj hk => ?_, ⟨fun j hj => absurd hj (Nat.not_lt_zero _), fun j j' hj => absurd hj (Nat.not_lt_zero _)⟩, fun b hb => absurd hb (Nat.not_lt_zero _), fun b b' _ hb => absurd hb (Nat.not_lt_zero _)⟩, ?_⟩
  · rw [sz 0 (by decide) (by decide) (by decide) (by decide), x0]
  · rw [sz 1 (by decide) (by decide) (by decide) (by decide), x1]
  · rw [so 2 (by decide) (by decide), b1]
  · rw [sz 3 (by decide) (by decide) (by decide) (by decide), x3]
  · rw [sz 4 (by decide) (by decide) (by decide) (by decide), x4]
  · rw [sz 7 (by decide) (by decide) (by decide) (by decide), x5]
  · rw [sz 5 (by decide) (by decide) (by decide) (by decide), x71]
  · rw [so 9 (by decide) (by decide), c0, hd9]
  · rw [sz 8 (by decide) (by decide) (by decide) (by decide), x13]
  · rw [so _ (by omega) (by omega), so _ (by omega) (by omega)]
    exact ⟨(b2 k hk).1.symm, (b2 k hk).2.symm⟩
  · rw [sz _ (by omega) (by omega) (by omega) (by omega), sz _ (by omega) (by omega) (by omega) (by omega)]
    exact ⟨(xl k hk).1.symm, (xl k hk).2.symm⟩
  · rw [sz _ (by omega) (by omega) (by omega) (by omega)]
    exact (xc _ (by omega)).symm
  · obtain ⟨c2, c3, c4, c5, c6⟩ := c1 j hj
    refine ⟨?_, sp j hj, ?_, ?_⟩
    · rw [s1 _ (by omega) (by omega), c2]
    · rw [sz _ (by omega) (by omega) (by omega) (by omega), c5]
    · rw [hS _ (by omega), c6]
      unfold enR
      rw [if_pos (by omega)]
  · rw [so _ (by omega) (by omega)]
    exact ((c1 j hj).2.1 k hk).symm
  · rw [b1]
    exact g6
  · rw [(b2 k hk).1]
    exact (g5 k hk).2.2
  · exact ⟨0, Nat.zero_le _, xc _ (by omega)⟩
  · obtain ⟨c2, c3, c4, c5, c6⟩ := c1 j hj
    obtain ⟨y1, -, -⟩ := g8 j hj
    rw [c2, c5, c6]
    refine ⟨y1, ?_, Or.inl ⟨Or.inl rfl, rfl⟩, fun _ => rfl⟩
    rw [c4]
    exact dt_r (O j hj) ⟨h1, g0.1⟩ (by omega)
  · exact ⟨((O j hj) k hk).2.1, ((O j hj) k hk).2.2⟩
  · unfold EqJ
    rw [sz 6 (by decide) (by decide) (by decide) (by decide), fl_idI _ _ _ (fun j _ hj => ?_)]
    obtain ⟨-, -, -, c5, -⟩ := c1 j (by omega)
    unfold ftS
    rw [c5, if_neg (by decide)]
    rfl
end LR
