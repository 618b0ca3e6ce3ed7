-- ===== a set of the pool is combined =====
section CM
variable {ns m i n q tm : Nat} {du : Nat} {k p s : Nat}
theorem pw_s {R : Nat → Nat → Int32} {x : Int32} {d : Nat} : fl (pwS R x) (d + 1) 0 0 = if bU x d = 0 then fl (pwS R x) d 0 0 else fl (pwS R x) d 0 0 + R 8 (R 1 d).toNatClampNeg := by
  rw [fl_snoc, Nat.zero_add]
  rfl
theorem cb_go (hk : k < ns) (hp : p < 3) (hs : s < 1024) : ∀ (d qq : Nat) (R : Nat → Nat → Int32) (S : Nat → Int32) (acc : Int32), d ≤ qq → EqR ns m qq n (Int32.ofNat du) R (zu S (26 + 3 * k + p) (S (26 + 3 * k + p) + acc)) → IvR ns m i qq n q tm R → EqJ m R S → (∀ j, j < d → s.testBit j = true → R 9 (pgt R j) = Int32.ofNat k) →
    (cgG (Int32.ofNat s) k p d (R, qq)).2 = (cbG (Int32.ofNat s) (Int32.ofNat p) d (S, qq)).2 ∧ EqR ns m (cgG (Int32.ofNat s) k p d (R, qq)).2 n (Int32.ofNat du) (cgG (Int32.ofNat s) k p d (R, qq)).1 (zu (cbG (Int32.ofNat s) (Int32.ofNat p) d (S, qq)).1 (26 + 3 * k + p) ((cbG (Int32.ofNat s) (Int32.ofNat p) d (S, qq)).1 (26 + 3 * k + p) + (acc + fl (pwS R (Int32.ofNat s)) d 0 0))) ∧ IvR ns m i (cgG (Int32.ofNat s) k p d (R, qq)).2 n q tm (cgG (Int32.ofNat s) k p d (R, qq)).1 ∧ EqJ m (cgG (Int32.ofNat s) k p d (R, qq)).1 (cbG (Int32.ofNat s) (Int32.ofNat p) d (S, qq)).1 ∧ (cbG (Int32.ofNat s) (Int32.ofNat p) d (S, qq)).1 (26 + 3 * k + p) = S (26 + 3 * k + p) ∧ (cgG (Int32.ofNat s) k p d (R, qq)).1 2 = R 2 ∧ (cgG (Int32.ofNat s) k p d (R, qq)).2 ≤ qq ∧ ((∃ j, j < d ∧ s.testBit j = true) → (cgG (Int32.ofNat s) k p d (R, qq)).2 < qq) := by
  intro d
  induction d with
  | zero =>
    intro qq R S acc _ E A J _
    refine ⟨rfl, ?_, A, J, rfl, rfl, Nat.le_refl _, fun ⟨j, h, _⟩ => absurd h (Nat.not_lt_zero _)⟩
    show EqR ns m qq n (Int32.ofNat du) R (zu S (26 + 3 * k + p) (S (26 + 3 * k + p) + (acc + 0)))
    rw [Int32.add_zero]
    exact E
  | succ d ih =>
    intro qq R S acc hd E A J hK
    have N := A.1.2
    obtain ⟨b1, b2⟩ := bit_z (s := s) (j := d) (by omega) (by omega)
    by_cases c : s.testBit d = false
    · have e1 : cgG (Int32.ofNat s) k p (d + 1) (R, qq) = cgG (Int32.ofNat s) k p d (R, qq) := if_pos (b2.mpr c)
      have e2 : cbG (Int32.ofNat s) (Int32.ofNat p) (d + 1) (S, qq) = cbG (Int32.ofNat s) (Int32.ofNat p) d (S, qq) := if_pos (b1.mpr c)
      rw [e1, e2, pw_s, if_pos (b2.mpr c)]
      obtain ⟨r1, r2, r3, r4, r5, r6, r7, r8⟩ := ih qq R S acc (by omega) E A J (fun j hj => hK j (by omega))
      refine ⟨r1, r2, r3, r4, r5, r6, r7, fun ⟨j, h1, h2⟩ => r8 ⟨j, ?_, h2⟩⟩
      by_cases ej : j = d
      · rw [ej, c] at h2
        cases h2
      · omega
    · have c' : s.testBit d = true := by
        cases z : s.testBit d with
        | false => exact absurd z c
        | true => rfl
      obtain ⟨l1, l2, -⟩ := pool_it A (j := d) (by omega)
      have h9 : R 9 (pgt R d) = Int32.ofNat k := hK d (by omega) c'
      have ep : pit S d = pgt R d := by
        unfold pit pgt
        have := E.2.1 d (by omega)
        rw [zu_o (by omega)] at this
        rw [this]
      have e1 : cgG (Int32.ofNat s) k p (d + 1) (R, qq) = cgG (Int32.ofNat s) k p d (gpA (tpF R d qq) k p (pgt R d), qq - 1) := if_neg (fun z => c (b2.mp z))
      have e2 : cbG (Int32.ofNat s) (Int32.ofNat p) (d + 1) (S, qq) = cbG (Int32.ofNat s) (Int32.ofNat p) d (zu (zu (lvF S d qq) (48 + pgt R d) 4) (128 + pgt R d) (Int32.ofNat p), qq - 1) := by
        have : cbG (Int32.ofNat s) (Int32.ofNat p) (d + 1) (S, qq) = cbG (Int32.ofNat s) (Int32.ofNat p) d (cbS (Int32.ofNat p) S d qq, qq - 1) := if_neg (fun z => c (b1.mp z))
        rw [this]
        unfold cbS
        rw [ep]
      have J0 : EqJ m R (zu S (26 + 3 * k + p) (S (26 + 3 * k + p) + acc)) := EqJ_c J (zu_o (by omega)) (fun _ _ => Iff.rfl)
      have hl : pgt R d < i := l1
      obtain ⟨E1, A1, J1, -⟩ := re_ok (ix := d) (it := pgt R d) (k := k) (p := p) E A J0 (by omega) l2 (by omega) hk h9 hp
      obtain ⟨t1, -, tr, -⟩ := tp_v (R := R) (ix := d) (pc := qq) (by omega)
      have w8 : (zu S (26 + 3 * k + p) (S (26 + 3 * k + p) + acc)) (208 + pgt R d) = R 8 (pgt R d) := (E.2.2.2.2.2.1 (pgt R d) (by omega)).1
      rw [zu_o (by omega)] at w8
      generalize hit : pgt R d = it at *
      obtain ⟨v1, v7, vo⟩ := lv_v (S := S) (ix := d) (pc := qq) (by omega) (by omega)
      obtain ⟨u1, u7, uo⟩ := lv_v (S := zu S (26 + 3 * k + p) (S (26 + 3 * k + p) + acc)) (ix := d) (pc := qq) (by omega) (by omega)
      have S1c : zu (zu (lvF S d qq) (48 + it) 4) (128 + it) (Int32.ofNat p) (26 + 3 * k + p) = S (26 + 3 * k + p) := by
        rw [zu_o (by omega), zu_o (by omega), vo _ (by omega) (by omega)]
      have E2 : EqR ns m (qq - 1) n (Int32.ofNat du) (gpA (tpF R d qq) k p it) (zu (zu (zu (lvF S d qq) (48 + it) 4) (128 + it) (Int32.ofNat p)) (26 + 3 * k + p) (zu (zu (lvF S d qq) (48 + it) 4) (128 + it) (Int32.ofNat p) (26 + 3 * k + p) + (acc + R 8 it))) := by
        refine EqR_of E1 (by omega) (by omega) (by omega) (by omega) (fun _ _ _ => rfl) (fun a ha => ?_)
        rw [S1c]
        unfold putA
        by_cases c0 : a = 26 + 3 * k + p
        · rw [c0, zu_same, zu_o (by omega), zu_o (by omega), zu_same, uo _ (by omega) (by omega), zu_same, uo _ (by omega) (by omega), zu_o (by omega), w8, Int32.add_assoc]
        · rw [zu_o c0]
          by_cases c1 : a = 128 + it
          · rw [c1, zu_same, zu_same]
          · rw [zu_o c1, zu_o c1]
            by_cases c2 : a = 48 + it
            · rw [c2, zu_same, zu_same]
            · rw [zu_o c2, zu_o c2, zu_o c0]
              by_cases c7 : a = 7
              · rw [c7, v7, u7]
              · by_cases c3 : a < 38 ∨ 48 ≤ a
                · rw [vo a c7 c3, uo a c7 c3, zu_o c0]
                · have : a = 38 + (a - 38) := by omega
                  rw [this, v1, u1, zu_o (by omega), zu_o (by omega)]
      have J2 : EqJ m (gpA (tpF R d qq) k p it) (zu (zu (lvF S d qq) (48 + it) 4) (128 + it) (Int32.ofNat p)) := by
        refine EqJ_c J1 ?_ (fun _ _ => Iff.rfl)
        unfold putA
        rw [zu_o (by omega), zu_o (by omega), zu_o (by omega), zu_o (by omega), zu_o (by omega), vo 6 (by omega) (by omega), uo 6 (by omega) (by omega), zu_o (by omega)]
      have g1 : ∀ j, j < d → gpA (tpF R d qq) k p it 1 j = R 1 j := fun j hj => by
        rw [gpA_r (by omega), t1, if_neg (by omega)]
      have g8 : gpA (tpF R d qq) k p it 8 = R 8 := by rw [gpA_r (by omega), tr 8 (by decide) (by decide)]
      have g9 : gpA (tpF R d qq) k p it 9 = R 9 := by rw [gpA_r (by omega), tr 9 (by decide) (by decide)]
      have g2 : gpA (tpF R d qq) k p it 2 = R 2 := by rw [gpA_r (by omega), tr 2 (by decide) (by decide)]
      have K1 : ∀ j, j < d → s.testBit j = true → gpA (tpF R d qq) k p it 9 (pgt (gpA (tpF R d qq) k p it) j) = Int32.ofNat k := fun j hj hb => by
        unfold pgt
        rw [g9, g1 j hj]
        exact hK j (by omega) hb
      have sm : fl (pwS (gpA (tpF R d qq) k p it) (Int32.ofNat s)) d 0 0 = fl (pwS R (Int32.ofNat s)) d 0 0 := by
        refine fl_congr _ _ _ fun j a _ hj => ?_
        unfold pwS
        rw [g8, g1 j (by omega)]
      obtain ⟨r1, r2, r3, r4, r5, r6, r7, r8⟩ := ih (qq - 1) _ _ (acc + R 8 it) (by omega) E2 A1 J2 K1
      rw [e1, e2, pw_s, if_neg (fun z => c (b2.mp z))]
      have hit2 : (R 1 d).toNatClampNeg = it := hit
      rw [hit2]
      rw [sm] at r2
      refine ⟨r1, ?_, r3, r4, r5.trans S1c, r6.trans g2, by omega, fun _ => by omega⟩
      have ea : acc + R 8 it + fl (pwS R (Int32.ofNat s)) d 0 0 = acc + (fl (pwS R (Int32.ofNat s)) d 0 0 + R 8 it) := by
        rw [Int32.add_assoc, Int32.add_comm (R 8 it)]
      rw [ea] at r2
      exact r2
theorem co_ok {pc : Nat} {R : Nat → Nat → Int32} {S : Nat → Int32} (E : EqR ns m pc n (Int32.ofNat du) R S) (A : IvR ns m i pc n q tm R) (J : EqJ m R S) (hk : k < ns) (hp : p < 3) (h1 : 1 ≤ s) (hs : s < 2 ^ pc) (hb : ∀ x, s.testBit x = true → (alN (alF R k) pc 0 0).testBit x = true) (hx : 0 ≤ S (26 + 3 * k + p) + wvF S pc k s - S (10 + k)) :
    ∃ Q T, (cgG (Int32.ofNat s) k p pc (R, pc)).1 = Q ∧ (cbG (Int32.ofNat s) (Int32.ofNat p) pc (S, pc)).1 = T ∧ Q 13 0 = Int32.ofNat n ∧ Q 7 0 = Int32.ofNat m ∧ T 8 = Int32.ofNat n ∧ T 9 = Int32.ofNat m ∧ n < 80 ∧ ¬ Q 6 (k * 3 + p) < Q 2 k ∧ RS ns du m tm (gclA Q k p n m) (closeF (Int32.ofNat du) (zu T (26 + 3 * k + p) (T (26 + 3 * k + p) + wvF S pc k s)) k p n m) ∧ gclA Q k p n m 13 0 = Int32.ofNat (n + 1) ∧ (∀ j, j < pc → inb (R 1 j) 80 = true ∧ (bU (Int32.ofNat s) j = 0 ∨ R 9 (pgt R j) = Int32.ofNat k)) := by
  have N := A.1.2
  have h10 : 2 ^ pc ≤ 2 ^ 10 := Nat.pow_le_pow_right (by decide) (by omega)
  have hK : ∀ j, j < pc → s.testBit j = true → R 9 (pgt R j) = Int32.ofNat k := fun j hj hbj => by
    have := hb j hbj
    rw [al_bit, Nat.zero_testBit, Bool.false_or, Bool.and_eq_true] at this
    exact of_decide_eq_true this.2
  have E0 : EqR ns m pc n (Int32.ofNat du) R (zu S (26 + 3 * k + p) (S (26 + 3 * k + p) + 0)) := by
    rw [Int32.add_zero, zu_id rfl]
    exact E
  obtain ⟨r1, r2, r3, r4, r5, r6, r7, r8⟩ := cb_go (k := k) (p := p) (s := s) hk hp (by omega) pc pc R S 0 (Nat.le_refl _) E0 A J hK
  obtain ⟨w1, -⟩ := (wv_ok (k := k) E A hs).1 hb
  have r8 := r8 (by
    apply Classical.byContradiction
    intro hc
    have : s = 0 := by
      apply Nat.eq_of_testBit_eq
      intro x
      rw [Nat.zero_testBit]
      cases z : s.testBit x with
      | false => rfl
      | true =>
        have xl : x < pc := by
          by_cases cx : x < pc
          · exact cx
          · have := Nat.testBit_lt_two_pow (x := s) (i := x) (Nat.lt_of_lt_of_le hs (Nat.pow_le_pow_right (by decide) (by omega)))
            rw [this] at z
            cases z
        exact absurd ⟨x, xl, z⟩ hc
    omega)
  rw [Int32.zero_add, ← w1] at r2
  generalize hQ : (cgG (Int32.ofNat s) k p pc (R, pc)).1 = Q at *
  generalize hT : (cbG (Int32.ofNat s) (Int32.ofNat p) pc (S, pc)).1 = T at *
  generalize (cgG (Int32.ofNat s) k p pc (R, pc)).2 = q' at *
  have q13 : Q 13 0 = Int32.ofNat n := r3.1.1.2.2.2.2.1
  have q70 : Q 7 0 = Int32.ofNat m := r3.1.1.2.2.1
  have N' := r3.1.2
  have t8 : T 8 = Int32.ofNat n := by
    have := r2.1.2.2.2.2.2.2.2.2
    rw [zu_o (by omega)] at this
    rw [this, q13]
  have t9 : T 9 = Int32.ofNat m := by
    have := r2.1.2.2.2.2.2.2.2.1
    rw [zu_o (by omega)] at this
    rw [this, q70]
  have c6 : Q 6 (k * 3 + p) = S (26 + 3 * k + p) + wvF S pc k s := by
    have := r2.2.2.2.2.1 k p (by omega) hp
    rw [zu_same, r5] at this
    exact this.symm
  have c2 : Q 2 k = S (10 + k) := by rw [r6, (E.2.2.1 k hk).1]
  have nc : ¬ Q 6 (k * 3 + p) < Q 2 k := by
    obtain ⟨y, y1, y2⟩ := r3.2.2.1 k p (by omega) hp
    obtain ⟨t, -, t2, t3⟩ := r3.2.1.2 k hk
    rw [← c6, ← c2, y2, t3] at hx
    rw [y2, t3, i32_lt (by omega) (by omega)]
    have := i32_sI (a := y) (b := t) (by omega) (by omega)
    rw [Int32.le_iff_toInt_le, this] at hx
    have z0 : (0 : Int32).toInt = 0 := by decide
    omega
  have J2 : EqJ m Q (zu T (26 + 3 * k + p) (T (26 + 3 * k + p) + wvF S pc k s)) := EqJ_c r4 (zu_o (by omega)) (fun _ _ => Iff.rfl)
  refine ⟨Q, T, rfl, rfl, q13, q70, t8, t9, by omega, nc, ⟨i, q', n + 1, q, cl_eq r2 q13 hk hp (by omega) (by omega) (by omega) (by omega), cl_iv r3 (by omega) hk hp nc, cl_J J2 r2 (by omega) hp (by omega) (by omega)⟩, ?_, fun j hj => ⟨(pool_it A hj).2.2, ?_⟩⟩
  · rw [(cl_fate (R := Q) (k := k) (p := p) (n := n) (by omega : m ≤ 80)).2.2 13 (by decide) (by decide) (by decide)]
    exact gbA_v.2.2.2.2.2.1
  · cases z : s.testBit j with
    | false => exact Or.inl ((bit_z (by omega) (by omega)).2.mpr z)
    | true => exact Or.inr (hK j hj z)
end CM
