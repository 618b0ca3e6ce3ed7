-- ===== what-ifs: values =====
theorem cmp_p {x y : Int64} : 0 < lg_cmp x y ↔ y < x := by
  unfold lg_cmp
  by_cases c : x > y
  · rw [if_pos c]
    exact ⟨fun _ => c, fun _ => by decide⟩
  · rw [if_neg c]
    refine ⟨fun q => ?_, fun q => absurd q c⟩
    by_cases e : x = y
    · rw [if_pos e] at q
      exact absurd q (by decide)
    · rw [if_neg e] at q
      exact absurd q (by decide)
theorem cmp_l {x y : Int64} : lg_cmp x y < 0 ↔ x < y := by
  unfold lg_cmp
  by_cases c : x > y
  · rw [if_pos c]
    exact ⟨fun q => absurd q (by decide), fun q => absurd (Int64.lt_trans c q) (Int64.lt_irrefl)⟩
  · rw [if_neg c]
    by_cases e : x = y
    · rw [if_pos e]
      exact ⟨fun q => absurd q (by decide), fun q => absurd (e ▸ q) (Int64.lt_irrefl)⟩
    · rw [if_neg e]
      exact ⟨fun _ => Int64.lt_of_le_of_ne (Int64.not_lt.mp c) e, fun _ => by decide⟩
theorem it2_s {F : (Nat → Nat → Int32) → (Nat → Nat → Int32)} : ∀ (j : Nat) (R : Nat → Nat → Int32), it2 F (j + 1) R = F (it2 F j R) := by
  intro j
  induction j with
  | zero => intro R; rfl
  | succ j ih => intro R; exact ih (F R)
theorem it_s {F : (Nat → Int32) → (Nat → Int32)} : ∀ (j : Nat) (R : Nat → Int32), it F (j + 1) R = F (it F j R) := by
  intro j
  induction j with
  | zero => intro R; rfl
  | succ j ih => intro R; exact ih (F R)
section WV
variable {ns m tm st du n t : Nat} {R R' R0 D Q : Nat → Nat → Int32} {S pl W : Nat → Int32} {h : Mm} {u c : Nat}
theorem cp_at {o j : Nat} (hj : j < lims m n o) : cpR m n R Q o j = R o j := if_pos hj
theorem cp_rs (Z : RS ns du m tm R S) (h13 : R 13 0 = Int32.ofNat n) (hn : n ≤ 80) : RS ns du m tm (cpR m n R Q) (upto 1168 S W) := by
  refine RS_of Z (fun o j hj => ?_) (fun a ha => if_pos ha)
  rw [h13, cN_of (by omega)] at hj
  exact cp_at hj
theorem cp_13 (h13 : R 13 0 = Int32.ofNat n) : cpR m n R Q 13 0 = Int32.ofNat n := (cp_at (show 0 < 2 by decide)).trans h13
theorem wi_c (P : PlR ns st du D pl) (Z : RS ns du m tm R S) (ht : tm + t ≤ 1000000) (huc : u + 7 ≤ c) (Tc : ST h c) (U : SU h u) (hD : ∀ o, o < 7 → h.mi (u + o) = D o) : ∀ j, j < t → dM PG 276 [.ref c, .ref u] (h.sb c (it2 (tiC D) j R)) = some (.inl none, h.sb c (it2 (tiC D) (j + 1) R)) := by
  intro j hj
  have Zj := it_ok P j tm R S Z (by omega)
  rw [it2_s]
  exact (ti_ok P Zj (by omega)).2.1 h c u huc Tc U hD
theorem wi_m (P : PlR ns st du D pl) (Z : RS ns du m tm R S) (ht : tm + t ≤ 1000000) (H : MO h) (hp : h.mi 279 = pl) : ∀ j, j < t → dM PG 187 [.ref 277, .ref 285] (h.sw 285 (it (tiM pl) j S)) = some (.inl none, h.sw 285 (it (tiM pl) (j + 1) S)) := by
  intro j hj
  have Zj := it_ok P j tm R S Z (by omega)
  rw [it_s]
  exact (ti_ok P Zj (by omega)).2.2 h 285 H (by decide) (mk_285 H) hp
/-- boxes after j ticks -/
def wk (D : Nat → Nat → Int32) (j : Nat) (R : Nat → Nat → Int32) : Nat := cN (it2 (tiC D) j R 13 0)
theorem cn_nat {x : Int32} : ∀ (d i : Nat), ∃ e, e ≤ d ∧ ∀ a : Nat, fl (cnO R x) d i (Int32.ofNat a) = Int32.ofNat (a + e) := by
  intro d
  induction d with
  | zero => intro i; exact ⟨0, Nat.le_refl _, fun a => rfl⟩
  | succ d ih =>
    intro i
    obtain ⟨e, e1, e2⟩ := ih (i + 1)
    by_cases z : R 14 i = x
    · refine ⟨e + 1, by omega, fun a => ?_⟩
      show fl (cnO R x) d (i + 1) (cnO R x i (Int32.ofNat a)) = _
      have : cnO R x i (Int32.ofNat a) = Int32.ofNat (a + 1) := by
        unfold cnO
        rw [if_pos z]
        exact i32_add (b := 1)
      rw [this, e2, show a + 1 + e = a + (e + 1) by omega]
    · refine ⟨e, by omega, fun a => ?_⟩
      show fl (cnO R x) d (i + 1) (cnO R x i (Int32.ofNat a)) = _
      have : cnO R x i (Int32.ofNat a) = Int32.ofNat a := by
        unfold cnO
        rw [if_neg z]
        exact Int32.add_zero _
      rw [this, e2]
theorem wi_v (P : PlR ns st du D pl) (Z : RS ns du m tm R S) (ht : tm + t ≤ 1000000) (h13 : R 13 0 = Int32.ofNat n) (hn : n ≤ 80) : (n ≤ wk D t R ∧ wk D t R ≤ 80) ∧ it2 (tiC D) t R 13 0 = Int32.ofNat (wk D t R) ∧ it (tiM pl) t S 8 = Int32.ofNat (wk D t R) ∧ fl (fun j a => a + exF (it2 (tiC D) t R) j) (wk D t R - n) n 0 = fl (ovS (it (tiM pl) t S) (-1)) (wk D t R - n) n 0 ∧ ltF (Int32.ofNat du) (it2 (tiC D) t R) (wk D t R) = lateF (it (tiM pl) t S) (wk D t R) ∧ (∀ x, x ≠ -1 → decide (fl (cnO R x) n 0 0 < fl (cnO (it2 (tiC D) t R) x) (wk D t R) 0 0) = decide (0 < fl (bxS (it (tiM pl) t S) x) (wk D t R - n) n 0)) ∧ ∀ pr k, erF (Int32.ofNat du) pr (it2 (tiC D) t R) k (wk D t R) = emF pr (it (tiM pl) t S) k (wk D t R) ∧ ∀ p, p ≤ 99 → pr = Int32.ofNat p → ∃ e, e ≤ 237600000 ∧ erF (Int32.ofNat du) pr (it2 (tiC D) t R) k (wk D t R) = Int32.ofNat e := by
  have Zt := it_ok P t tm R S Z ht
  obtain ⟨n1, ⟨a1, a1b⟩, a2, a3⟩ := it_bx P t tm n R S Z ht h13 hn
  obtain ⟨i, pc, k, q, E, V, J⟩ := Zt
  have VN := V.1.2
  have k13 : it2 (tiC D) t R 13 0 = Int32.ofNat k := V.1.1.2.2.2.2.1
  have ek : wk D t R = k := by
    unfold wk
    rw [k13]
    exact cN_of (by omega)
  rw [ek]
  have e1 : n1 = k := Classical.byContradiction fun z => i32_ne (by omega) (by omega) z (a2.symm.trans k13)
  refine ⟨⟨by omega, by omega⟩, k13, E.1.2.2.2.2.2.2.2.2.trans k13, q_ov1 E (by omega), q_late E, fun x hx => ?_, fun pr kk => ⟨q_er E V, fun p hp e => ?_⟩⟩
  · rw [← q_bx E hx (show n + (k - n) ≤ k by omega)]
    obtain ⟨x1, y1, z1⟩ := cn_nat (R := R) (x := x) n 0
    obtain ⟨x2, y2, z2⟩ := cn_nat (R := it2 (tiC D) t R) (x := x) (k - n) n
    have s1 : fl (cnO R x) n 0 0 = Int32.ofNat x1 := by
      have := z1 0
      rw [Nat.zero_add] at this
      exact this
    have s2 : fl (cnO (it2 (tiC D) t R) x) (k - n) n 0 = Int32.ofNat x2 := by
      have := z2 0
      rw [Nat.zero_add] at this
      exact this
    have s3 : fl (cnO (it2 (tiC D) t R) x) k 0 0 = Int32.ofNat (x1 + x2) := by
      have e2 : fl (cnO (it2 (tiC D) t R) x) k 0 0 = fl (cnO (it2 (tiC D) t R) x) (k - n) n (fl (cnO (it2 (tiC D) t R) x) n 0 0) := by
        have := fl_add (f := cnO (it2 (tiC D) t R) x) n (k - n) 0 0
        rw [show n + (k - n) = k by omega, Nat.zero_add] at this
        exact this
      have e3 : fl (cnO (it2 (tiC D) t R) x) n 0 0 = fl (cnO R x) n 0 0 := fl_congr n 0 0 (fun j y _ hj => by
        unfold cnO
        rw [a3 j (by omega)])
      rw [e2, e3, s1]
      exact z2 x1
    rw [s1, s2, s3]
    have l1 : Int32.ofNat x1 < Int32.ofNat (x1 + x2) ↔ 0 < x2 := by
      rw [Int32.lt_iff_toInt_lt, i32_toInt (by omega), i32_toInt (by omega)]
      omega
    have l2 : (0 : Int32) < Int32.ofNat x2 ↔ 0 < x2 := by
      rw [Int32.lt_iff_toInt_lt, i32_toInt (by omega)]
      show (0 : Int) < _ ↔ _
      omega
    exact decide_eq_decide.mpr (l1.trans l2.symm)
  · subst e
    obtain ⟨e, e1, e2⟩ := er_nat V (pr := p) (k := kk) (d := Int32.ofNat du) hp
    exact ⟨e, Nat.le_trans e1 (by omega), e2⟩
end WV
-- the choices
theorem i64_toInt {n : Nat} (h : n < 1000000) : (Int64.ofNat n).toInt = (n : Int) := Int64.toInt_ofNat_of_lt (by omega)
theorem sub_nat {a b : Nat} (h : b ≤ a) (ha : a ≤ 80) : ∃ x, x ≤ 80 ∧ Int32.ofNat a - Int32.ofNat b = Int32.ofNat x ∧ (Int32.ofNat a - Int32.ofNat b).toInt64 = Int64.ofNat x := by
  refine ⟨a - b, by omega, i32_sub h, ?_⟩
  rw [i32_sub h]
  apply Int64.toInt_inj.mp
  rw [Int32.toInt_toInt64, i32_toInt (by omega), i64_toInt (by omega)]
theorem cmp_nn {x : Nat} (hx : x ≤ 80) : (lg_cmp (Int64.ofNat x) 0 ≤ 0 ↔ lg_cmp (Int64.ofNat x) 0 = 0) := by
  have h0 : ¬ Int64.ofNat x < 0 := by
    rw [Int64.lt_iff_toInt_lt, i64_toInt (by omega)]
    show ¬ (x : Int) < 0
    omega
  refine ⟨fun q => ?_, fun q => by rw [q]; decide⟩
  by_cases e : Int64.ofNat x = 0
  · exact cmp_0.mpr e
  · have : (0 : Int64) < Int64.ofNat x := Int64.lt_of_le_of_ne (Int64.not_lt.mp h0) (fun z => e z.symm)
    exact absurd (cmp_p.mpr this) (Int32.not_lt.mpr q)
theorem br_st {g c : Nat → Int32} {r x y : Nat} {a : Int32 × Int64 × Int64} (hx : x ≤ 80) (hc : (c r).toInt64 = Int64.ofNat x) (hy : y ≤ 80) (ha : a.2.2 = Int64.ofNat y) : brS g c r a = mrS g c r a ∧ ∃ z, z ≤ 80 ∧ (mrS g c r a).2.2 = Int64.ofNat z := by
  have e : brS g c r a = mrS g c r a := by
    unfold brS mrS
    rw [hc, ha]
    simp only [cmp_nn hx, cmp_nn hy, Int32.not_le]
  refine ⟨e, ?_⟩
  unfold mrS
  split
  · exact ⟨y, hy, ha⟩
  · split
    · exact ⟨x, hx, hc⟩
    · exact ⟨y, hy, ha⟩
theorem br_eq {g : Nat → Int32} {k : Nat → Nat} {m : Nat} (hk : ∀ r, r < 3 → m ≤ k r ∧ k r ≤ 80) : fl (brS g (fun r => Int32.ofNat (k r) - Int32.ofNat m)) 3 0 (0, 0, 0) = fl (mrS g (fun r => Int32.ofNat (k r) - Int32.ofNat m)) 3 0 (0, 0, 0) := by
  have go : ∀ (d i y : Nat) (a : Int32 × Int64 × Int64), i + d ≤ 3 → y ≤ 80 → a.2.2 = Int64.ofNat y → fl (brS g (fun r => Int32.ofNat (k r) - Int32.ofNat m)) d i a = fl (mrS g (fun r => Int32.ofNat (k r) - Int32.ofNat m)) d i a := by
    intro d
    induction d with
    | zero => intro i y a _ _ _; rfl
    | succ d ih =>
      intro i y a hi hy ha
      obtain ⟨h1, h2⟩ := hk i (by omega)
      obtain ⟨x, x1, -, x2⟩ := sub_nat h1 h2
      obtain ⟨e, z, z1, z2⟩ := br_st (g := g) (c := fun r => Int32.ofNat (k r) - Int32.ofNat m) (r := i) x1 x2 hy ha
      show fl _ d (i + 1) (brS g _ i a) = fl _ d (i + 1) (mrS g _ i a)
      rw [e]
      exact ih (i + 1) z _ (by omega) z1 z2
  exact go 3 0 0 (0, 0, 0) (by omega) (by omega) rfl
theorem bl_eq {g : Nat → Int32} : (fl (blS g) 101 0 (0, 2147483647)).1 = (fl (mlS g) 101 0 (-1, 0)).1 := by
  have go : ∀ (d i : Nat) (a : Int32 × Int32), i + d ≤ 101 → a.1 ≠ -1 → fl (blS g) d i a = fl (mlS g) d i a := by
    intro d
    induction d with
    | zero => intro i a _ _; rfl
    | succ d ih =>
      intro i a hi ha
      have e : blS g i a = mlS g i a ∧ (mlS g i a).1 ≠ -1 := by
        unfold blS mlS
        by_cases q : a.2 ≤ g i
        · rw [if_pos q, if_neg (fun z => by rcases z with z | z; exact ha z; exact absurd q (Int32.not_le.mpr z))]
          exact ⟨rfl, ha⟩
        · rw [if_neg q, if_pos (Or.inr (Int32.not_le.mp q))]
          exact ⟨rfl, oN_s (by omega)⟩
      show fl _ d (i + 1) (blS g i a) = fl _ d (i + 1) (mlS g i a)
      rw [e.1]
      exact ih (i + 1) _ (by omega) e.2
  have b0 : blS g 0 (0, 2147483647) = (0, g 0) := by
    unfold blS
    by_cases q : (2147483647 : Int32) ≤ g 0
    · have e : g 0 = 2147483647 := by
        apply Int32.toInt_inj.mp
        have := Int32.le_iff_toInt_le.mp q
        have z : (2147483647 : Int32).toInt = 2147483647 := by decide
        have y := Int32.toInt_lt (g 0)
        omega
      rw [e, if_pos (Int32.le_refl _)]
    · rw [if_neg q]
      rfl
  have m0 : mlS g 0 (-1, 0) = (0, g 0) := by
    unfold mlS
    rw [if_pos (Or.inl rfl)]
    rfl
  show (fl (blS g) 100 1 (blS g 0 (0, 2147483647))).1 = (fl (mlS g) 100 1 (mlS g 0 (-1, 0))).1
  rw [b0, m0, go 100 1 (0, g 0) (by omega) (show (0 : Int32) ≠ -1 by decide)]
