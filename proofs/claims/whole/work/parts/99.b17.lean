-- ===== an item leaves the pool =====
theorem tp_in : ∀ (d i j : Nat) (R : Nat → Nat → Int32), 1 ≤ i → i ≤ j + 1 → j + 1 < i + d → fl tpS d i R 1 j = R 1 (j + 1) := by
  intro d
  induction d with
  | zero => intro i j R h1 h2 h3; omega
  | succ d ih =>
    intro i j R h1 h2 h3
    show fl tpS d (i + 1) (tpS i R) 1 j = R 1 (j + 1)
    by_cases c : j + 1 = i
    · rw [fl_tp d (i + 1) _ (by omega) (by omega)]
      unfold tpS
      rw [show j = i - 1 by omega, z2_s, show i - 1 + 1 = i by omega]
    · rw [ih (i + 1) j _ (by omega) (by omega) (by omega)]
      unfold tpS
      rw [z2_ne (by omega)]
theorem lv_in : ∀ (d i j : Nat) (S : Nat → Int32), i ≤ j → j < i + d → fl lvS d i S (38 + j) = S (38 + j + 1) := by
  intro d
  induction d with
  | zero => intro i j S h1 h2; omega
  | succ d ih =>
    intro i j S h1 h2
    show fl lvS d (i + 1) (lvS i S) (38 + j) = S (38 + j + 1)
    by_cases c : j = i
    · rw [fl_lv d (i + 1) _ (by omega)]
      unfold lvS
      rw [c, zu_same]
    · rw [ih (i + 1) j _ (by omega) (by omega)]
      unfold lvS
      rw [zu_o (by omega)]
section TK3
variable {ns m i pc n q tm : Nat} {du : Nat} {R : Nat → Nat → Int32} {S : Nat → Int32} {k p ix it : Nat}
theorem tp_v (hix : ix < pc) : (∀ j, tpF R ix pc 1 j = if ix ≤ j ∧ j + 1 < pc then R 1 (j + 1) else R 1 j) ∧ tpF R ix pc 0 5 = Int32.ofNat (pc - 1) ∧ (∀ o, o ≠ 0 → o ≠ 1 → tpF R ix pc o = R o) ∧ ∀ j, j ≠ 5 → tpF R ix pc 0 j = R 0 j := by
  refine ⟨fun j => ?_, z2_s, fun o h0 h1 => ?_, fun j hj => ?_⟩
  · unfold tpF
    rw [z2_o (by decide)]
    by_cases c : ix ≤ j ∧ j + 1 < pc
    · rw [if_pos c, tp_in _ _ _ _ (by omega) (by omega) (by omega)]
    · rw [if_neg c, fl_tp _ _ _ (by omega) (by omega)]
  · funext j
    unfold tpF
    rw [z2_o h0, fl_tp _ _ _ (by omega) (by omega)]
  · unfold tpF
    rw [z2_ne (by omega), fl_tp _ _ _ (by omega) (by omega)]
theorem lv_v (hix : ix < pc) (hpc : pc ≤ 10) : (∀ j, lvF S ix pc (38 + j) = if ix ≤ j ∧ j + 1 < pc then S (38 + j + 1) else S (38 + j)) ∧ lvF S ix pc 7 = Int32.ofNat (pc - 1) ∧ ∀ a, a ≠ 7 → (a < 38 ∨ 48 ≤ a) → lvF S ix pc a = S a := by
  refine ⟨fun j => ?_, ?_, fun a h7 ha => ?_⟩
  · unfold lvF
    by_cases c : ix ≤ j ∧ j + 1 < pc
    · rw [if_pos c, lv_in _ _ _ _ (by omega) (by omega), zu_o (by omega)]
    · rw [if_neg c, fl_lv _ _ _ (by omega), zu_o (by omega)]
  · unfold lvF
    rw [fl_lv _ _ _ (by omega), zu_same]
  · unfold lvF
    rw [fl_lv _ _ _ (by omega), zu_o h7]
theorem tk_eq (E : EqR ns m pc n (Int32.ofNat du) R S) (hix : ix < pc) (hn : n ≤ 80) (hm : m ≤ 80) (hpc : pc ≤ 10) (hs : ns ≤ 4) : EqR ns m (pc - 1) n (Int32.ofNat du) (tpF R ix pc) (lvF S ix pc) := by
  obtain ⟨⟨s0, s1, s2, s3, s4, s7, s5, s9, s8⟩, P, T, L, C, I, V, B⟩ := E
  obtain ⟨t1, t5, tr, t0⟩ := tp_v (R := R) hix
  obtain ⟨l1, l7, lo⟩ := lv_v (S := S) hix hpc
  refine ⟨⟨?_, ?_, ?_, ?_, ?_, ?_, ?_, ?_, ?_⟩, fun j hj => ?_, fun k hk => ?_, fun k hk => ?_, fun k p hk hp => ?_, fun j hj => ?_, fun j k hj hk => ?_, fun b hb => ?_⟩
  · rw [lo _ (by omega) (by omega), t0 _ (by omega), s0]
  · rw [lo _ (by omega) (by omega), t0 _ (by omega), s1]
  · rw [lo _ (by omega) (by omega), t0 _ (by omega), s2]
  · rw [lo _ (by omega) (by omega), t0 _ (by omega), s3]
  · rw [lo _ (by omega) (by omega), t0 _ (by omega), s4]
  · rw [l7, t5]
  · rw [lo _ (by omega) (by omega), tr _ (by omega) (by omega), s5]
  · rw [lo _ (by omega) (by omega), tr _ (by omega) (by omega), s9]
  · rw [lo _ (by omega) (by omega), tr _ (by omega) (by omega), s8]
  · rw [l1, t1]
    by_cases c : ix ≤ j ∧ j + 1 < pc
    · rw [if_pos c, if_pos c]
      exact P (j + 1) c.2
    · rw [if_neg c, if_neg c]
      exact P j (by omega)
  · rw [lo _ (by omega) (by omega), lo _ (by omega) (by omega), tr _ (by omega) (by omega), tr _ (by omega) (by omega)]
    exact T k hk
  · rw [lo _ (by omega) (by omega), lo _ (by omega) (by omega), tr _ (by omega) (by omega), tr _ (by omega) (by omega)]
    exact L k hk
  · rw [lo _ (by omega) (by omega), tr _ (by omega) (by omega)]
    exact C k p hk hp
  · rw [lo _ (by omega) (by omega), lo _ (by omega) (by omega), lo _ (by omega) (by omega), lo _ (by omega) (by omega), tr _ (by omega) (by omega), tr _ (by omega) (by omega), tr _ (by omega) (by omega), tr _ (by omega) (by omega)]
    exact I j hj
  · rw [lo _ (by omega) (by omega), tr _ (by omega) (by omega)]
    exact V j k hj hk
  · rw [lo _ (by omega) (by omega), lo _ (by omega) (by omega), lo _ (by omega) (by omega), lo _ (by omega) (by omega), lo _ (by omega) (by omega), lo _ (by omega) (by omega), tr _ (by omega) (by omega), tr _ (by omega) (by omega), tr _ (by omega) (by omega), tr _ (by omega) (by omega), tr _ (by omega) (by omega)]
    exact B b hb
theorem tk_iv (A : IvR ns m i pc n q tm R) (hix : ix < pc) (hit : R 1 ix = Int32.ofNat it) (hi80 : it < 80) : IvQ ns m i (pc - 1) n q tm (tpF R ix pc) ∧ (∀ j, j < pc - 1 → tpF R ix pc 1 j ≠ Int32.ofNat it) := by
  obtain ⟨⟨⟨a0, a5, a7, a71, a13, a131⟩, n1, n2, n3, n4, n5, n6, n7⟩, T, C, I, V, P, B⟩ := A
  obtain ⟨t1, t5, tr, t0⟩ := tp_v (R := R) hix
  have g : ∀ o, (o ≠ 0 ∧ o ≠ 1) → tpF R ix pc o = R o := fun o h => tr o h.1 h.2
  -- the place where an entry stood
  have pl : ∀ j, j < pc - 1 → ∃ j', j' < pc ∧ j' ≠ ix ∧ tpF R ix pc 1 j = R 1 j' ∧ (j' = if ix ≤ j then j + 1 else j) := fun j hj => by
    rw [t1]
    by_cases c : ix ≤ j ∧ j + 1 < pc
    · exact ⟨j + 1, c.2, by omega, if_pos c, (if_pos c.1).symm⟩
    · exact ⟨j, by omega, by omega, if_neg c, (if_neg (by omega)).symm⟩
  refine ⟨⟨⟨⟨by rw [t0 _ (by decide), a0], t5, by rw [g 7 (by decide), a7], by rw [g 7 (by decide), a71], by rw [g 13 (by decide), a13], by rw [g 13 (by decide), a131]⟩, n1, n2, by omega, by omega, n5, n6, n7⟩, by omega, IvT_c (t0 _ (by decide)) (g 2 (by decide)) T, ?_, IvI_c (g 8 (by decide)) (g 9 (by decide)) (g 10 (by decide)) (g 11 (by decide)) I, IvV_c (g 12 (by decide)) V, ⟨fun j hj => ?_, fun j j' hj hj' e => ?_⟩, IvB_c (g 14 (by decide)) (g 15 (by decide)) (g 16 (by decide)) (g 17 (by decide)) (g 18 (by decide)) B⟩, fun j hj e => ?_⟩
  · rw [show i - (pc - 1) - 1 = i - pc by omega]
    exact IvC_c (g 6 (by decide)) C
  · obtain ⟨y, y1, -, y3, -⟩ := pl j hj
    rw [y3, g 10 (by decide), g 9 (by decide)]
    exact P.1 y y1
  · obtain ⟨y, y1, -, y3, y4⟩ := pl j hj
    obtain ⟨z, z1, -, z3, z4⟩ := pl j' hj'
    rw [y3, z3] at e
    have := P.2 y z y1 z1 e
    rw [y4, z4] at this
    split at this <;> split at this <;> omega
  · obtain ⟨y, y1, y2, y3, -⟩ := pl j hj
    rw [y3, ← hit] at e
    exact y2 (P.2 y ix y1 hix e)
theorem tk_J (J : EqJ m R S) (hix : ix < pc) (hpc : pc ≤ 10) : EqJ m (tpF R ix pc) (lvF S ix pc) := by
  obtain ⟨-, -, tr, -⟩ := tp_v (R := R) hix
  obtain ⟨-, -, lo⟩ := lv_v (S := S) hix hpc
  exact EqJ_c J (lo 6 (by decide) (by decide)) (fun j hj => by rw [tr 10 (by decide) (by decide)])
/-- an item of the pool goes into a box -/
theorem re_ok (E : EqR ns m pc n (Int32.ofNat du) R S) (A : IvR ns m i pc n q tm R) (J : EqJ m R S) (hix : ix < pc) (hit : R 1 ix = Int32.ofNat it) (hi80 : it < 80) (hk : k < ns) (h9 : R 9 it = Int32.ofNat k) (hp : p < 3) : EqR ns m (pc - 1) n (Int32.ofNat du) (gpA (tpF R ix pc) k p it) (putA (lvF S ix pc) k p it) ∧ IvR ns m i (pc - 1) n q tm (gpA (tpF R ix pc) k p it) ∧ EqJ m (gpA (tpF R ix pc) k p it) (putA (lvF S ix pc) k p it) ∧ it < i := by
  have N := A.1.2
  obtain ⟨-, -, tr, -⟩ := tp_v (R := R) hix
  obtain ⟨x, k', x1, x2, x3, x4, x5⟩ := A.2.2.2.2.2.1.1 ix hix
  have ei : x = it := by
    rw [hit] at x3
    have := congrArg cN x3
    rw [cN_of (by omega), cN_of (by omega)] at this
    exact this.symm
  subst ei
  obtain ⟨q1, q2⟩ := tk_iv A hix hit hi80
  have E1 := tk_eq E hix (by omega) (by omega) (by omega) (by omega)
  refine ⟨put_eq E1 (by omega) (by omega) hp (by omega) (by omega) (by omega) (by omega), put_iv q1 x1 (by omega) hp q2, put_J (tk_J J hix (by omega)) hp (by omega) hi80 ?_, x1⟩
  rw [tr 10 (by decide) (by decide), x4]
  decide
end TK3
