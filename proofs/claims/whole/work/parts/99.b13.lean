-- ===== lookahead =====
section LA
variable {ns m i pc n q tm : Nat} {du : Nat} {R : Nat → Nat → Int32} {S : Nat → Int32} {k p : Nat}
theorem wa_eq {kd wt kd' wt' : Nat → Int32} {x : Int32} {most : Nat} : ∀ (d j : Nat) (a b : Nat × (Nat → Int32)), (∀ y, j ≤ y → y < j + d → kd y = kd' y ∧ wt y = wt' y) → a.1 = b.1 → a.1 ≤ most → (∀ y, y < a.1 → a.2 y = b.2 y) → (fl (waS kd wt x most) d j a).1 = (fl (waS kd' wt' x most) d j b).1 ∧ (fl (waS kd wt x most) d j a).1 ≤ most ∧ ∀ y, y < (fl (waS kd wt x most) d j a).1 → (fl (waS kd wt x most) d j a).2 y = (fl (waS kd' wt' x most) d j b).2 y := by
  intro d
  induction d with
  | zero => intro j a b _ h2 h3 h4; exact ⟨h2, h3, h4⟩
  | succ d ih =>
    intro j a b h1 h2 h3 h4
    obtain ⟨e1, e2⟩ := h1 j (Nat.le_refl _) (by omega)
    show (fl (waS kd wt x most) d (j + 1) (waS kd wt x most j a)).1 = (fl (waS kd' wt' x most) d (j + 1) (waS kd' wt' x most j b)).1 ∧ (fl (waS kd wt x most) d (j + 1) (waS kd wt x most j a)).1 ≤ most ∧ ∀ y, y < (fl (waS kd wt x most) d (j + 1) (waS kd wt x most j a)).1 → (fl (waS kd wt x most) d (j + 1) (waS kd wt x most j a)).2 y = (fl (waS kd' wt' x most) d (j + 1) (waS kd' wt' x most j b)).2 y
    by_cases c : a.1 < most ∧ kd j = x
    · have f1 : waS kd wt x most j a = (a.1 + 1, zu a.2 a.1 (wt j)) := if_pos c
      have f2 : waS kd' wt' x most j b = (b.1 + 1, zu b.2 b.1 (wt' j)) := if_pos (by rw [← h2, ← e1]; exact c)
      rw [f1, f2]
      refine ih (j + 1) _ _ (fun y y1 y2 => h1 y (by omega) (by omega)) (by show a.1 + 1 = b.1 + 1; omega) (by show a.1 + 1 ≤ most; omega) (fun y hy => ?_)
      have hy : y < a.1 + 1 := hy
      show zu a.2 a.1 (wt j) y = zu b.2 b.1 (wt' j) y
      rw [← h2, e2]
      by_cases ey : y = a.1
      · rw [ey, zu_same, zu_same]
      · rw [zu_o ey, zu_o ey]
        exact h4 y (by omega)
    · have f1 : waS kd wt x most j a = a := if_neg c
      have f2 : waS kd' wt' x most j b = b := if_neg (by rw [← h2, ← e1]; exact c)
      rw [f1, f2]
      exact ih (j + 1) _ _ (fun y y1 y2 => h1 y (by omega) (by omega)) h2 h3 h4
theorem su_ms {W W' : Nat → Int32} {s : Nat} (hs : s < 2147483648) : ∀ (d j : Nat) (c a : Int32), j + d ≤ 12 → (∀ y, j ≤ y → y < j + d → W y = W' y) → fl (msS W' s) d j (c + a) = c + fl (suS W (Int32.ofNat s)) d j a := by
  intro d
  induction d with
  | zero => intro j c a _ _; rfl
  | succ d ih =>
    intro j c a h hW
    obtain ⟨b1, b2⟩ := bit_m (s := s) (j := j) hs (by omega)
    show fl (msS W' s) d (j + 1) (msS W' s j (c + a)) = c + fl (suS W (Int32.ofNat s)) d (j + 1) (suS W (Int32.ofNat s) j a)
    rw [← ih (j + 1) c (suS W (Int32.ofNat s) j a) (by omega) (fun y y1 y2 => hW y (by omega) (by omega))]
    congr 1
    unfold msS suS
    have b1 : (Int32.ofNat s >>> (Int32.ofNat j &&& 31) &&& 1) = Int32.ofNat (s / 2 ^ j % 2) := b1
    rw [b1, b2, ← hW j (Nat.le_refl _) (by omega)]
    have := Nat.mod_two_eq_zero_or_one (s / 2 ^ j)
    rcases this with z | z
    · rw [z]
      have z0 : Int32.ofNat 0 = 0 := rfl
      rw [z0, if_pos rfl, Int32.zero_mul, Int32.add_zero]
    · rw [z]
      have z0 : Int32.ofNat 1 = 1 := rfl
      rw [z0, if_neg z_1, Int32.one_mul, Int32.add_assoc]
theorem su_12 {W : Nat → Int32} {s fd : Nat} (hf : fd ≤ 12) (hs : s < 2 ^ fd) : fl (suS W (Int32.ofNat s)) 12 0 0 = fl (suS W (Int32.ofNat s)) fd 0 0 := by
  have h12 : 2 ^ fd ≤ 2 ^ 12 := Nat.pow_le_pow_right (by decide) hf
  have := fl_add (f := suS W (Int32.ofNat s)) fd (12 - fd) 0 0
  rw [show fd + (12 - fd) = 12 by omega] at this
  rw [this]
  refine fl_idI _ _ _ (fun j h1 h2 => ?_)
  have t : s.testBit j = false := Nat.testBit_lt_two_pow (Nat.lt_of_lt_of_le hs (Nat.pow_le_pow_right (by decide) (by omega)))
  unfold suS
  rw [if_pos ((bit_z (by omega) (by omega)).2.mpr t)]
theorem lk_eqv {x z t : Int32} : x - (t - z) = z - t + x := by
  rw [i32_sss]
  apply Int32.toBitVec_inj.mp
  simp only [Int32.toBitVec_sub, Int32.toBitVec_add]
  generalize x.toBitVec = a
  generalize t.toBitVec = b
  generalize z.toBitVec = c
  bv_omega
theorem lkS_c {f g : Nat → Int32} {s : Nat} {a : Int32} (h : f s = g s) : lkS f s a = lkS g s a := by
  unfold lkS
  rw [h]
theorem la_eq (E : EqR ns m pc n (Int32.ofNat du) R S) (hk : k < ns) (hk4 : k < 4) (hp : p < 3) {most x0 : Nat} (hx : x0 ≤ m) (hmo : most ≤ 12) {Wc Wm W0 W1 : Nat → Int32} {fc fm : Nat} (hc : fl (waS (R 9) (R 8) (Int32.ofNat k) most) (m - x0) x0 (0, W0) = (fc, Wc)) (hm : fl (waS (fun i => S (288 + i)) (fun i => S (208 + i)) (Int32.ofNat k) most) (m - x0) x0 (0, W1) = (fm, Wm)) : fc = fm ∧ fc ≤ 12 ∧ fl (lkS (fun s => fl (suS Wc (Int32.ofNat s)) 12 0 0 - (R 2 k - R 6 (k * 3 + p)))) (2 ^ fc - 1) 1 (-1) = fl (lkS (fun s => fl (msS Wm s) fm 0 (S (26 + 3 * k + p) - S (10 + k)))) (2 ^ fm - 1) 1 (-1) := by
  obtain ⟨w1, w2, w3⟩ := wa_eq (kd := R 9) (wt := R 8) (kd' := fun i => S (288 + i)) (wt' := fun i => S (208 + i)) (x := Int32.ofNat k) (most := most) (m - x0) x0 (0, W0) (0, W1) (fun y y1 y2 => by
    obtain ⟨a1, a2, -⟩ := E.2.2.2.2.2.1 y (by omega)
    exact ⟨a2.symm, a1.symm⟩) rfl (Nat.zero_le _) (fun y hy => absurd hy (Nat.not_lt_zero _))
  rw [hc, hm] at w1 w3
  rw [hc] at w2
  have w1 : fc = fm := w1
  have w2 : fc ≤ most := w2
  have w3 : ∀ y, y < fc → Wc y = Wm y := w3
  refine ⟨w1, by omega, ?_⟩
  subst w1
  refine fl_congr _ _ _ fun s a s1 s2 => ?_
  have h12 : 2 ^ fc ≤ 2 ^ 12 := Nat.pow_le_pow_right (by decide) (by omega)
  have h11 : 1 ≤ 2 ^ fc := Nat.one_le_two_pow
  have e : fl (suS Wc (Int32.ofNat s)) 12 0 0 - (R 2 k - R 6 (k * 3 + p)) = fl (msS Wm s) fc 0 (S (26 + 3 * k + p) - S (10 + k)) := by
    rw [su_12 (fd := fc) (by omega) (by omega), lk_eqv, E.2.2.2.2.1 k p hk4 hp, (E.2.2.1 k hk).1]
    have := su_ms (W := Wc) (W' := Wm) (s := s) (by omega) fc 0 (R 6 (k * 3 + p) - R 2 k) 0 (by omega) (fun y _ y2 => w3 y (by omega))
    rw [Int32.add_zero] at this
    exact this.symm
  exact lkS_c e
end LA
