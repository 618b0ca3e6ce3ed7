-- ===== questions: the folds of class and model agree =====
theorem fl_add {A : Type} {f : Nat → A → A} : ∀ (d e i : Nat) (a : A), fl f (d + e) i a = fl f e (i + d) (fl f d i a) := by
  intro d
  induction d with
  | zero =>
    intro e i a
    rw [Nat.zero_add]
    rfl
  | succ d ih =>
    intro e i a
    rw [show d + 1 + e = d + e + 1 by omega]
    show fl f (d + e) (i + 1) (f i a) = fl f e (i + (d + 1)) (fl f d (i + 1) (f i a))
    rw [ih, show i + 1 + d = i + (d + 1) by omega]
theorem fl_idI {A : Type} {f : Nat → A → A} : ∀ (d i : Nat) (a : A), (∀ j, i ≤ j → j < i + d → f j a = a) → fl f d i a = a := by
  intro d
  induction d with
  | zero => intro i a _; rfl
  | succ d ih =>
    intro i a h
    show fl f d (i + 1) (f i a) = a
    rw [h i (Nat.le_refl _) (by omega)]
    exact ih (i + 1) a (fun j x y => h j (by omega) (by omega))
section QQ
variable {ns m i pc n q tm : Nat} {du : Nat} {R : Nat → Nat → Int32} {S : Nat → Int32}
theorem q_lt (E : EqR ns m pc n (Int32.ofNat du) R S) {j : Nat} (hj : j < n) : gLB (Int32.ofNat du) (R 0 0) R j = lateB S j := by
  obtain ⟨-, -, -, -, b5, b6⟩ := E.2.2.2.2.2.2.2 j hj
  unfold gLB lateB
  rw [b5, b6, E.1.1]
theorem q_late (E : EqR ns m pc n (Int32.ofNat du) R S) : fl (fun j a => a + b2i (gLB (Int32.ofNat du) (R 0 0) R j)) n 0 0 = lateF S n := by
  unfold lateF
  refine fl_congr _ _ _ fun j a _ hj => ?_
  rw [q_lt E (by omega)]
theorem q_ex (E : EqR ns m pc n (Int32.ofNat du) R S) {j : Nat} (hj : j < n) : exF R j = S (848 + j) := (E.2.2.2.2.2.2.2 j hj).2.2.1.symm
theorem q_ov (E : EqR ns m pc n (Int32.ofNat du) R S) {x : Int32} (hx : x ≠ -1) : fl (exO R x) n 0 0 = fl (ovS S x) n 0 0 := by
  refine fl_congr _ _ _ fun j a _ hj => ?_
  have b := E.2.2.2.2.2.2.2 j (by omega)
  unfold exO ovS
  rw [b.1, q_ex E (by omega)]
  by_cases c : R 14 j = x
  · rw [if_pos c, if_pos (Or.inr c)]
  · rw [if_neg c, if_neg (fun z => by rcases z with z | z; exact hx z; exact c z)]
theorem q_ov1 (E : EqR ns m pc n (Int32.ofNat du) R S) {d j0 : Nat} (h : j0 + d ≤ n) : fl (fun k a => a + exF R k) d j0 0 = fl (ovS S (-1)) d j0 0 := by
  refine fl_congr _ _ _ fun j a _ hj => ?_
  unfold ovS
  rw [q_ex E (by omega), if_pos (Or.inl rfl)]
theorem q_bx (E : EqR ns m pc n (Int32.ofNat du) R S) {x : Int32} (hx : x ≠ -1) {d j0 : Nat} (h : j0 + d ≤ n) {a : Int32} : fl (cnO R x) d j0 a = fl (bxS S x) d j0 a := by
  refine fl_congr _ _ _ fun j a _ hj => ?_
  have b := E.2.2.2.2.2.2.2 j (by omega)
  unfold cnO bxS
  rw [b.1]
  by_cases c : R 14 j = x
  · rw [if_pos c, if_pos (Or.inr c)]
  · rw [if_neg c, if_neg (fun z => by rcases z with z | z; exact hx z; exact c z)]
theorem q_t (E : EqR ns m pc n (Int32.ofNat du) R S) (A : IvR ns m i pc n q tm R) {j : Nat} (hj : j < n) : S (768 + j) - S (848 + j) = R 16 j := by
  obtain ⟨-, b2, b3, -⟩ := E.2.2.2.2.2.2.2 j hj
  obtain ⟨-, ⟨w, t, e1, e2, h1, h2, h3, h4⟩, -⟩ := A.2.2.2.2.2.2.1 j hj
  rw [b2, b3, e1, e2, i32_sub h3, i32_sub (by omega)]
  congr 1
  omega
theorem q_er (E : EqR ns m pc n (Int32.ofNat du) R S) (A : IvR ns m i pc n q tm R) {pr : Int32} {k : Nat} : erF (Int32.ofNat du) pr R k n = emF pr S k n := by
  unfold erF emF
  refine fl_congr _ _ _ fun j a _ hj => ?_
  have b := E.2.2.2.2.2.2.2 j (by omega)
  unfold erS emS
  rw [b.1, q_lt E (by omega), q_t E A (by omega)]
theorem q_need (E : EqR ns m pc n (Int32.ofNat du) R S) (A : IvR ns m i pc n q tm R) {per : Int32} : lkF per R n q = fl (inS per S) n 0 0 := by
  have hq := A.1.2.2.2.2.2.1
  have e : fl (inS per S) n 0 0 = fl (inS per S) (n - q) q 0 := by
    have := fl_add (f := inS per S) q (n - q) 0 0
    rw [show q + (n - q) = n by omega, Nat.zero_add] at this
    rw [this, fl_idI q 0 0 (fun j _ hj => ?_)]
    obtain ⟨-, -, -, -, -, b6⟩ := E.2.2.2.2.2.2.2 j (by omega)
    obtain ⟨-, -, -, d, -⟩ := A.2.2.2.2.2.2.1 j (by omega)
    obtain ⟨t, t1, t2⟩ := d (by omega)
    have tmb := A.1.2.2.2.2.2.2.1
    unfold inS
    rw [b6, t2, if_neg (oN_s (by omega))]
    rfl
  rw [e]
  unfold lkF
  refine fl_congr _ _ _ fun j a hj1 hj => ?_
  obtain ⟨-, b2, -, -, -, b6⟩ := E.2.2.2.2.2.2.2 j (by omega)
  obtain ⟨-, -, -, -, d⟩ := A.2.2.2.2.2.2.1 j (by omega)
  unfold inS
  rw [b6, d hj1, if_pos rfl]
  unfold needF
  rw [b2]
theorem q_wor (E : EqR ns m pc n (Int32.ofNat du) R S) {j : Nat} (hj : j < n) : worN R n j = mwN S n j := by
  unfold worN mwN
  refine fl_congr _ _ _ fun k a _ hk => ?_
  unfold worB mwB
  rw [q_ex E hj, q_ex E (by omega)]
theorem q_worst (E : EqR ns m pc n (Int32.ofNat du) R S) {x : Int32} : fnd (fun j => decide (worN R n j = x)) n 0 = fnd (fun j => decide (mwN S n j = x)) n 0 := by
  refine fnd_c n 0 fun j _ hj => ?_
  rw [q_wor E (by omega)]
theorem q_in (E : EqR ns m pc n (Int32.ofNat du) R S) {x y : Int32} : fl (fun i a => a + b2i (opB R i x y)) m 0 0 = fl (fun i a => a + b2i (moB S i x y)) m 0 0 := by
  refine fl_congr _ _ _ fun j a _ hj => ?_
  obtain ⟨-, i2, i3, i4⟩ := E.2.2.2.2.2.1 j (by omega)
  unfold opB moB
  rw [i2, i3, i4]
theorem q_box (E : EqR ns m pc n (Int32.ofNat du) R S) (A : IvR ns m i pc n q tm R) {j : Nat} (hj : j < m) : (if S (48 + j) < 4 then -1 else S (128 + j)) = R 11 j := by
  obtain ⟨-, -, i3, i4⟩ := E.2.2.2.2.2.1 j hj
  obtain ⟨-, -, fb, -⟩ := A.2.2.2.1 j hj
  rw [i3, i4]
  rcases fb with ⟨z, e⟩ | z
  · rw [e]
    split <;> rfl
  · rw [if_neg]
    rcases z with z | z <;> rw [z] <;> decide
theorem fav_z {j k b : Nat} (h0 : R 12 (j * 4 + k) = 0) (hb : ∃ s, s ≤ 495 ∧ R 12 (j * 4 + b) = Int32.ofNat s) : favS R j k b = b := by
  obtain ⟨s, s1, s2⟩ := hb
  unfold favS
  rw [h0, s2, if_neg]
  show ¬ Int32.ofNat s < Int32.ofNat 0
  rw [i32_lt (by omega) (by omega)]
  omega
theorem q_fav (E : EqR ns m pc n (Int32.ofNat du) R S) (V : IvV ns m R) {j : Nat} (hj : j < m) (hs : 1 ≤ ns ∧ ns ≤ 4) : favF R j = bkF S j ns ∧ favF R j < 4 := by
  have eV := E.2.2.2.2.2.2.1
  have st : ∀ k b, k < 4 → b < 4 → favS R j k b = bkS S j k b := fun k b hk hb => by
    unfold favS bkS
    rw [eV j b hj hb, eV j k hj hk]
  have l0 : (0 : Nat) < 4 := by decide
  have lt : ∀ k b, k < 4 → b < 4 → favS R j k b < 4 := fun k b hk hb => favS_l hk hb
  have f1 := lt 1 0 (by decide) l0
  have f2 := lt 2 _ (by decide) f1
  have f3 := lt 3 _ (by decide) f2
  have u : favF R j = favS R j 3 (favS R j 2 (favS R j 1 0)) := rfl
  refine ⟨?_, by rw [u]; exact f3⟩
  have z : ∀ k b, ns ≤ k → k < 4 → b < 4 → favS R j k b = b := fun k b h1 h2 h3 => fav_z ((V j k hj h2).2 h1) (V j b hj h3).1
  rw [u]
  have : ns = 1 ∨ ns = 2 ∨ ns = 3 ∨ ns = 4 := by omega
  rcases this with rfl | rfl | rfl | rfl
  · show _ = 0
    rw [z 1 0 (by decide) (by decide) l0, z 2 0 (by decide) (by decide) l0, z 3 0 (by decide) (by decide) l0]
  · show _ = bkS S j 1 0
    rw [z 3 _ (by decide) (by decide) f2, z 2 _ (by decide) (by decide) f1, st 1 0 (by decide) l0]
  · show _ = bkS S j 2 (bkS S j 1 0)
    rw [z 3 _ (by decide) (by decide) f2, st 2 _ (by decide) f1, st 1 0 (by decide) l0]
  · show _ = bkS S j 3 (bkS S j 2 (bkS S j 1 0))
    rw [st 3 _ (by decide) f2, st 2 _ (by decide) f1, st 1 0 (by decide) l0]
theorem cl_z {j k b : Nat} {a : Int32} (h0 : R 12 (j * 4 + k) = 0) (ha : ∃ s, s ≤ 495 ∧ a = Int32.ofNat s) : clS R j b k a = a := by
  obtain ⟨s, s1, s2⟩ := ha
  unfold clS
  split
  · rfl
  · rw [h0, s2, if_neg]
    show ¬ Int32.ofNat s < Int32.ofNat 0
    rw [i32_lt (by omega) (by omega)]
    omega
theorem q_cla (E : EqR ns m pc n (Int32.ofNat du) R S) (V : IvV ns m R) {j : Nat} (hj : j < m) (hs : 1 ≤ ns ∧ ns ≤ 4) : claF R j = leadF S j ns := by
  have eV := E.2.2.2.2.2.2.1
  obtain ⟨ef, lf4⟩ := q_fav E V hj hs
  unfold claF leadF
  rw [← ef, eV j _ hj lf4]
  congr 1
  generalize favF R j = g at lf4
  have st : ∀ k a, k < 4 → clS R j g k a = ldS S j g k a := fun k a hk => by
    unfold clS ldS
    rw [eV j k hj hk]
  have nn : ∀ k a, k < 4 → (∃ s, s ≤ 495 ∧ a = Int32.ofNat s) → ∃ s, s ≤ 495 ∧ clS R j g k a = Int32.ofNat s := fun k a hk ha => by
    unfold clS
    split
    · exact ha
    · split
      · exact (V j k hj hk).1
      · exact ha
  have a0 : ∃ s, s ≤ 495 ∧ (0 : Int32) = Int32.ofNat s := ⟨0, by decide, rfl⟩
  have b0 := nn 0 0 (by decide) a0
  have b1 := nn 1 _ (by decide) b0
  have b2 := nn 2 _ (by decide) b1
  have z : ∀ k a, ns ≤ k → k < 4 → (∃ s, s ≤ 495 ∧ a = Int32.ofNat s) → clS R j g k a = a := fun k a h1 h2 ha => cl_z ((V j k hj h2).2 h1) ha
  show clS R j g 3 (clS R j g 2 (clS R j g 1 (clS R j g 0 0))) = _
  have : ns = 1 ∨ ns = 2 ∨ ns = 3 ∨ ns = 4 := by omega
  rcases this with rfl | rfl | rfl | rfl
  · show _ = ldS S j g 0 0
    rw [z 3 _ (by decide) (by decide) b2, z 2 _ (by decide) (by decide) b1, z 1 _ (by decide) (by decide) b0, st 0 0 (by decide)]
  · show _ = ldS S j g 1 (ldS S j g 0 0)
    rw [z 3 _ (by decide) (by decide) b2, z 2 _ (by decide) (by decide) b1, st 1 _ (by decide), st 0 0 (by decide)]
  · show _ = ldS S j g 2 (ldS S j g 1 (ldS S j g 0 0))
    rw [z 3 _ (by decide) (by decide) b2, st 2 _ (by decide), st 1 _ (by decide), st 0 0 (by decide)]
  · show _ = ldS S j g 3 (ldS S j g 2 (ldS S j g 1 (ldS S j g 0 0)))
    rw [st 3 _ (by decide), st 2 _ (by decide), st 1 _ (by decide), st 0 0 (by decide)]
-- sums as natural numbers
theorem er_nat (A : IvR ns m i pc n q tm R) {pr k : Nat} {d : Int32} (hp : pr ≤ 99) : ∃ e, e ≤ 2970000 * n ∧ erF d (Int32.ofNat pr) R k n = Int32.ofNat e := by
  have := fl_inv (f := erS d (Int32.ofNat pr) R k) (I := fun j a => j ≤ n → ∃ e, e ≤ 2970000 * j ∧ a = Int32.ofNat e) n 0 0 (fun _ => ⟨0, Nat.zero_le _, rfl⟩) (fun j a _ hj ih hj2 => by
    obtain ⟨e, e1, e2⟩ := ih (by omega)
    obtain ⟨-, ⟨w, t, -, t2, h1, h2, -⟩, -⟩ := A.2.2.2.2.2.2.1 j (by omega)
    have hm : pr * t ≤ 99 * 30000 := Nat.mul_le_mul hp h2
    unfold erS
    rw [e2, t2, i32_mul]
    split
    · split
      · have hd : Int32.ofNat (pr * t) / 2 = Int32.ofNat (pr * t / 2) := i32_div (b := 2) (by omega) (by omega)
        rw [hd, i32_add]
        exact ⟨_, by omega, rfl⟩
      · rw [i32_add]
        exact ⟨_, by omega, rfl⟩
    · exact ⟨e, by omega, by rw [Int32.add_zero]⟩)
  rw [Nat.zero_add] at this
  exact this (Nat.le_refl _)
theorem ov_nat (A : IvR ns m i pc n q tm R) {x : Int32} : ∃ e, e ≤ 4800000 * n ∧ fl (exO R x) n 0 0 = Int32.ofNat e := by
  have := fl_inv (f := exO R x) (I := fun j a => j ≤ n → ∃ e, e ≤ 4800000 * j ∧ a = Int32.ofNat e) n 0 0 (fun _ => ⟨0, Nat.zero_le _, rfl⟩) (fun j a _ hj ih hj2 => by
    obtain ⟨e, e1, e2⟩ := ih (by omega)
    obtain ⟨-, ⟨w, t, w2, t2, h1, h2, h3, h4⟩, -⟩ := A.2.2.2.2.2.2.1 j (by omega)
    unfold exO exF
    rw [e2, w2, t2, i32_sub h3]
    split
    · rw [i32_add]
      exact ⟨_, by omega, rfl⟩
    · exact ⟨e, by omega, by rw [Int32.add_zero]⟩)
  rw [Nat.zero_add] at this
  exact this (Nat.le_refl _)
theorem bx_nat {x : Int32} : ∃ e, e ≤ n ∧ fl (cnO R x) n 0 0 = Int32.ofNat e ∧ (e = 0 → fl (exO R x) n 0 0 = 0) := by
  have := fl_inv (f := fun j (a : Int32 × Int32) => (cnO R x j a.1, exO R x j a.2)) (I := fun j a => ∃ e, e ≤ j ∧ a.1 = Int32.ofNat e ∧ (e = 0 → a.2 = 0)) n 0 (0, 0) ⟨0, Nat.le_refl _, rfl, fun _ => rfl⟩ (fun j a _ hj ih => by
    obtain ⟨e, e1, e2, e3⟩ := ih
    show ∃ e, e ≤ j + 1 ∧ cnO R x j a.1 = Int32.ofNat e ∧ (e = 0 → exO R x j a.2 = 0)
    unfold cnO exO
    rw [e2]
    by_cases c : R 14 j = x
    · rw [if_pos c]
      exact ⟨e + 1, by omega, i32_add (b := 1), fun z => by omega⟩
    · rw [if_neg c, if_neg c, Int32.add_zero, Int32.add_zero]
      exact ⟨e, by omega, rfl, e3⟩)
  have sp : ∀ (d j : Nat) (a b : Int32), fl (fun j (a : Int32 × Int32) => (cnO R x j a.1, exO R x j a.2)) d j (a, b) = (fl (cnO R x) d j a, fl (exO R x) d j b) := by
    intro d
    induction d with
    | zero => intro j a b; rfl
    | succ d ih =>
      intro j a b
      exact ih (j + 1) _ _
  rw [sp, Nat.zero_add] at this
  exact this
end QQ
