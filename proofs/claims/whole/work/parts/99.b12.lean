-- ===== the best set of the pool =====
section BS
variable {ns m i pc n q tm : Nat} {du : Nat} {R : Nat → Nat → Int32} {S : Nat → Int32} {k p : Nat}
/-- pool places of a species -/
def alF (R : Nat → Nat → Int32) (k j : Nat) : Bool := decide (R 9 (R 1 j).toNatClampNeg = Int32.ofNat k)
theorem pool_it (A : IvR ns m i pc n q tm R) {j : Nat} (hj : j < pc) : (R 1 j).toNatClampNeg < i ∧ R 1 j = Int32.ofNat (R 1 j).toNatClampNeg ∧ inb (R 1 j) 80 = true := by
  obtain ⟨x, k', x1, -, x3, -⟩ := A.2.2.2.2.2.1.1 j hj
  have h := A.1.2
  rw [x3, i32_nat (by omega)]
  exact ⟨x1, rfl, inb_nat (by omega) (by decide)⟩
theorem ps_al : ∀ (d j a : Nat), j + d ≤ 10 → fl (psS R (Int32.ofNat k)) d j (Int32.ofNat a) = Int32.ofNat (alN (alF R k) d j a) := by
  intro d
  induction d with
  | zero => intro j a _; rfl
  | succ d ih =>
    intro j a h
    show fl (psS R (Int32.ofNat k)) d (j + 1) (psS R (Int32.ofNat k) j (Int32.ofNat a)) = Int32.ofNat (alN (alF R k) d (j + 1) (if alF R k j = true then a ||| (1 <<< j) else a))
    unfold psS
    by_cases c : R 9 (R 1 j).toNatClampNeg = Int32.ofNat k
    · have c2 : alF R k j = true := decide_eq_true c
      rw [if_pos c, if_pos c2, sh_1 (by omega), i32_or]
      exact ih (j + 1) _ (by omega)
    · have c2 : ¬ alF R k j = true := fun z => c (of_decide_eq_true z)
      rw [if_neg c, if_neg c2]
      exact ih (j + 1) _ (by omega)
theorem wo_none {x y : Int32} : ∀ (d j : Nat), fl (woS S x y) d j none = none := by
  intro d
  induction d with
  | zero => intro j; rfl
  | succ d ih => intro j; exact ih (j + 1)
theorem wo_go (E : EqR ns m pc n (Int32.ofNat du) R S) (A : IvR ns m i pc n q tm R) {s : Nat} (hs : s < 1024) : ∀ (d j : Nat) (a : Int32), j + d ≤ pc → ((∀ x, j ≤ x → x < j + d → s.testBit x = true → alF R k x = true) → fl (woS S (Int32.ofNat s) (Int32.ofNat k)) d j (some a) = some (fl (pwS R (Int32.ofNat s)) d j a)) ∧ ((∃ x, j ≤ x ∧ x < j + d ∧ s.testBit x = true ∧ alF R k x = false) → fl (woS S (Int32.ofNat s) (Int32.ofNat k)) d j (some a) = none) := by
  have hpc := A.1.2.2.2.2.1
  intro d
  induction d with
  | zero =>
    intro j a _
    exact ⟨fun _ => rfl, fun ⟨x, h1, h2, _⟩ => absurd h2 (by omega)⟩
  | succ d ih =>
    intro j a h
    obtain ⟨b1, b2⟩ := bit_z (s := s) (j := j) (by omega) (by omega)
    obtain ⟨l1, -, -⟩ := pool_it A (j := j) (by omega)
    have hN := A.1.2
    obtain ⟨e8, e9, -⟩ := E.2.2.2.2.2.1 (R 1 j).toNatClampNeg (by omega)
    have ep : pit S j = (R 1 j).toNatClampNeg := by
      unfold pit
      rw [E.2.1 j (by omega)]
    have st : woS S (Int32.ofNat s) (Int32.ofNat k) j (some a) = if s.testBit j = false then some a else if alF R k j = true then some (pwS R (Int32.ofNat s) j a) else none := by
      show (if mB (Int32.ofNat s) j = 0 then some a else if S (288 + pit S j) = Int32.ofNat k then some (a + S (208 + pit S j)) else none) = _
      rw [ep, e8, e9]
      by_cases c : s.testBit j = false
      · rw [if_pos (b1.mpr c), if_pos c]
      · rw [if_neg (fun z => c (b1.mp z)), if_neg c]
        unfold pwS alF
        rw [if_neg (fun z => c (b2.mp z))]
        by_cases c2 : R 9 (R 1 j).toNatClampNeg = Int32.ofNat k
        · rw [if_pos c2, if_pos (decide_eq_true c2)]
        · rw [if_neg c2, if_neg (fun z => c2 (of_decide_eq_true z))]
    have sp : pwS R (Int32.ofNat s) j a = if s.testBit j = false then a else a + R 8 (R 1 j).toNatClampNeg := by
      unfold pwS
      by_cases c : s.testBit j = false
      · rw [if_pos (b2.mpr c), if_pos c]
      · rw [if_neg (fun z => c (b2.mp z)), if_neg c]
    refine ⟨fun hh => ?_, fun ⟨x, h1, h2, h3, h4⟩ => ?_⟩
    · show fl (woS S (Int32.ofNat s) (Int32.ofNat k)) d (j + 1) (woS S (Int32.ofNat s) (Int32.ofNat k) j (some a)) = some (fl (pwS R (Int32.ofNat s)) d (j + 1) (pwS R (Int32.ofNat s) j a))
      have e : woS S (Int32.ofNat s) (Int32.ofNat k) j (some a) = some (pwS R (Int32.ofNat s) j a) := by
        rw [st]
        by_cases c : s.testBit j = false
        · rw [if_pos c, sp, if_pos c]
        · have c' : s.testBit j = true := by
            cases z : s.testBit j with
            | false => exact absurd z c
            | true => rfl
          rw [if_neg c, if_pos (hh j (Nat.le_refl _) (by omega) c')]
      rw [e]
      exact (ih (j + 1) _ (by omega)).1 (fun x h1 h2 h3 => hh x (by omega) (by omega) h3)
    · show fl (woS S (Int32.ofNat s) (Int32.ofNat k)) d (j + 1) (woS S (Int32.ofNat s) (Int32.ofNat k) j (some a)) = none
      by_cases ex : x = j
      · subst ex
        rw [st, h3, if_neg (by decide), h4, if_neg (by decide)]
        exact wo_none d (x + 1)
      · rw [st]
        by_cases c : s.testBit j = false
        · rw [if_pos c]
          exact (ih (j + 1) _ (by omega)).2 ⟨x, by omega, by omega, h3, h4⟩
        · rw [if_neg c]
          by_cases c2 : alF R k j = true
          · rw [if_pos c2]
            exact (ih (j + 1) _ (by omega)).2 ⟨x, by omega, by omega, h3, h4⟩
          · rw [if_neg c2]
            exact wo_none d (j + 1)
theorem pw_nat (A : IvR ns m i pc n q tm R) {s : Nat} : ∀ (d j w : Nat), j + d ≤ pc → ∃ w', w' ≤ w + 60000 * d ∧ fl (pwS R (Int32.ofNat s)) d j (Int32.ofNat w) = Int32.ofNat w' := by
  intro d
  induction d with
  | zero => intro j w _; exact ⟨w, Nat.le_refl _, rfl⟩
  | succ d ih =>
    intro j w h
    obtain ⟨l1, -, -⟩ := pool_it A (j := j) (by omega)
    have hN := A.1.2
    obtain ⟨⟨v, v1, v2⟩, -⟩ := A.2.2.2.1 (R 1 j).toNatClampNeg (by omega)
    show ∃ w', w' ≤ w + 60000 * (d + 1) ∧ fl (pwS R (Int32.ofNat s)) d (j + 1) (pwS R (Int32.ofNat s) j (Int32.ofNat w)) = Int32.ofNat w'
    unfold pwS
    split
    · obtain ⟨w', h1, h2⟩ := ih (j + 1) w (by omega)
      exact ⟨w', by omega, h2⟩
    · rw [v2, i32_add]
      obtain ⟨w', h1, h2⟩ := ih (j + 1) (w + v) (by omega)
      exact ⟨w', by omega, h2⟩
theorem wv_ok (E : EqR ns m pc n (Int32.ofNat du) R S) (A : IvR ns m i pc n q tm R) {s : Nat} (hs : s < 2 ^ pc) : ((∀ x, s.testBit x = true → (alN (alF R k) pc 0 0).testBit x = true) → wvF S pc k s = fl (pwS R (Int32.ofNat s)) pc 0 0 ∧ ¬ wvF S pc k s = -1) ∧ (¬ (∀ x, s.testBit x = true → (alN (alF R k) pc 0 0).testBit x = true) → wvF S pc k s = -1) := by
  have hpc := A.1.2.2.2.2.1
  have h10 : 2 ^ pc ≤ 2 ^ 10 := Nat.pow_le_pow_right (by decide) hpc
  have hs2 : s < 1024 := by omega
  obtain ⟨w1, w2⟩ := wo_go (k := k) E A hs2 pc 0 0 (by omega)
  have hb : ∀ x, (alN (alF R k) pc 0 0).testBit x = (decide (0 ≤ x ∧ x < 0 + pc) && alF R k x) := fun x => by
    rw [al_bit, Nat.zero_testBit, Bool.false_or]
  refine ⟨fun h => ?_, fun h => ?_⟩
  · have e := w1 (fun x _ _ h3 => by
      have := h x h3
      rw [hb, Bool.and_eq_true] at this
      exact this.2)
    obtain ⟨w', h1, h2⟩ := pw_nat A (s := s) pc 0 0 (by omega)
    have z : (0 : Int32) = Int32.ofNat 0 := rfl
    unfold wvF
    rw [e]
    refine ⟨rfl, ?_⟩
    show ¬ fl (pwS R (Int32.ofNat s)) pc 0 (Int32.ofNat 0) = -1
    rw [h2]
    exact oN_s (by omega)
  · have hx : ∃ x, s.testBit x = true ∧ (alN (alF R k) pc 0 0).testBit x = false := by
      apply Classical.byContradiction
      intro hc
      apply h
      intro x hx
      cases c : (alN (alF R k) pc 0 0).testBit x with
      | true => rfl
      | false => exact absurd ⟨x, hx, c⟩ hc
    obtain ⟨x, h1, h2⟩ := hx
    have xl : x < pc := by
      by_cases c : x < pc
      · exact c
      · have := Nat.testBit_lt_two_pow (x := s) (i := x) (Nat.lt_of_lt_of_le hs (Nat.pow_le_pow_right (by decide) (by omega)))
        rw [this] at h1
        cases h1
    rw [hb, decide_eq_true (by omega), Bool.true_and] at h2
    unfold wvF
    rw [w2 ⟨x, by omega, by omega, h1, h2⟩]
    rfl
/-- class's best and model's best -/
def bsQ (pc : Nat) (ok : Nat → Prop) (a : Int32 × Int32) (o : Option Nat × Int32) : Prop := a.1 = oN o.1 ∧ ∀ b, o.1 = some b → a.2 = o.2 ∧ 1 ≤ b ∧ b < 2 ^ pc ∧ ok b
theorem bs_step (E : EqR ns m pc n (Int32.ofNat du) R S) (A : IvR ns m i pc n q tm R) (hk : k < ns) (hp : p < 3) {s : Nat} (h1 : 1 ≤ s) (hs : s < 2 ^ pc) {a : Int32 × Int32} {o : Option Nat × Int32} (B : bsQ pc (fun b => (∀ x, b.testBit x = true → (alN (alF R k) pc 0 0).testBit x = true) ∧ 0 ≤ S (26 + 3 * k + p) + wvF S pc k b - S (10 + k)) a o) : bsQ pc (fun b => (∀ x, b.testBit x = true → (alN (alF R k) pc 0 0).testBit x = true) ∧ 0 ≤ S (26 + 3 * k + p) + wvF S pc k b - S (10 + k)) (bsS R pc (R 2 k - R 6 (k * 3 + p)) (Int32.ofNat (alN (alF R k) pc 0 0)) s a) (msT (wvF S pc k) (S (26 + 3 * k + p)) (S (10 + k)) s o) := by
  have hN := A.1.2
  have h10 : 2 ^ pc ≤ 2 ^ 10 := Nat.pow_le_pow_right (by decide) (by omega)
  have hal := al_lt (f := alF R k) (d := pc)
  obtain ⟨w1, w2⟩ := wv_ok (k := k) E A hs
  have ec := E.2.2.2.2.1 k p (by omega) hp
  have et := (E.2.2.1 k hk).1
  by_cases c : ∀ x, s.testBit x = true → (alN (alF R k) pc 0 0).testBit x = true
  · obtain ⟨e1, e2⟩ := w1 c
    have ex : fl (pwS R (Int32.ofNat s)) pc 0 0 - (R 2 k - R 6 (k * 3 + p)) = S (26 + 3 * k + p) + wvF S pc k s - S (10 + k) := by
      rw [i32_sss, e1, ec, et]
    unfold bsS msT
    rw [if_pos ((sub_iff (by omega) (by omega)).mpr c), if_neg e2, ex]
    generalize hy : S (26 + 3 * k + p) + wvF S pc k s - S (10 + k) = y
    by_cases c0 : 0 ≤ y
    · rw [if_pos c0, if_pos c0]
      have new : bsQ pc (fun b => (∀ x, b.testBit x = true → (alN (alF R k) pc 0 0).testBit x = true) ∧ 0 ≤ S (26 + 3 * k + p) + wvF S pc k b - S (10 + k)) (Int32.ofNat s, y) (some s, y) := ⟨rfl, fun b hb => by
        cases hb
        exact ⟨rfl, h1, hs, c, by rw [hy]; exact c0⟩⟩
      obtain ⟨oo, ov⟩ := o
      obtain ⟨B1, B2⟩ := B
      cases oo with
      | none =>
        have B1 : a.1 = -1 := B1
        rw [if_pos (Or.inl B1)]
        exact new
      | some b =>
        obtain ⟨b1, b2, b3, b4⟩ := B2 b rfl
        have b1 : a.2 = ov := b1
        have B1 : a.1 = Int32.ofNat b := B1
        have nb : ¬ a.1 = -1 := by rw [B1]; exact oN_s (by omega)
        obtain ⟨p1, p2⟩ := bc_ok (s := s) (by omega)
        obtain ⟨p3, p4⟩ := bc_ok (s := b) (by omega)
        show bsQ pc _ _ (if ov < y then (some b, ov) else if y = ov ∧ ¬ mbG 1024 s < mbG 1024 b then (some b, ov) else (some s, y))
        have lc : Int32.ofNat (mbG 1024 s) < Int32.ofNat (mbG 1024 b) ↔ mbG 1024 s < mbG 1024 b := i32_lt (by omega) (by omega)
        rw [B1, p1, p3, b1]
        by_cases l1 : ov < y
        · rw [if_pos l1, if_neg (fun z => by
            rcases z with z | z | z
            · exact oN_s (by omega) z
            · exact Int32.lt_irrefl (Int32.lt_trans l1 z)
            · rw [z.1] at l1; exact Int32.lt_irrefl l1)]
          exact ⟨B1, B2⟩
        · rw [if_neg l1]
          by_cases l2 : y = ov ∧ ¬ mbG 1024 s < mbG 1024 b
          · rw [if_pos l2, if_neg (fun z => by
              rcases z with z | z | z
              · exact oN_s (by omega) z
              · rw [l2.1] at z; exact Int32.lt_irrefl z
              · exact l2.2 (lc.mp z.2))]
            exact ⟨B1, B2⟩
          · rw [if_neg l2, if_pos (by
              by_cases e : y = ov
              · refine Or.inr (Or.inr ⟨e, ?_⟩)
                by_cases z : mbG 1024 s < mbG 1024 b
                · exact lc.mpr z
                · exact absurd ⟨e, z⟩ l2
              · exact Or.inr (Or.inl (Int32.lt_of_le_of_ne (Int32.not_lt.mp l1) e)))]
            exact new
    · rw [if_neg c0, if_neg c0]
      exact B
  · unfold bsS msT
    rw [if_neg (fun z => c ((sub_iff (by omega) (by omega)).mp z)), if_pos (w2 c)]
    exact B
theorem bs_eq (E : EqR ns m pc n (Int32.ofNat du) R S) (A : IvR ns m i pc n q tm R) (hk : k < ns) (hp : p < 3) : bsQ pc (fun b => (∀ x, b.testBit x = true → (alN (alF R k) pc 0 0).testBit x = true) ∧ 0 ≤ S (26 + 3 * k + p) + wvF S pc k b - S (10 + k)) (fl (bsS R pc (R 2 k - R 6 (k * 3 + p)) (Int32.ofNat (alN (alF R k) pc 0 0))) (alN (alF R k) pc 0 0) 1 (-1, 0)) (fl (msT (wvF S pc k) (S (26 + 3 * k + p)) (S (10 + k))) (2 ^ pc - 1) 1 (none, 0)) := by
  have hal := al_lt (f := alF R k) (d := pc)
  have hN := A.1.2
  have go : ∀ (d s : Nat) (a : Int32 × Int32) (o : Option Nat × Int32), 1 ≤ s → s + d ≤ 2 ^ pc → bsQ pc (fun b => (∀ x, b.testBit x = true → (alN (alF R k) pc 0 0).testBit x = true) ∧ 0 ≤ S (26 + 3 * k + p) + wvF S pc k b - S (10 + k)) a o → bsQ pc (fun b => (∀ x, b.testBit x = true → (alN (alF R k) pc 0 0).testBit x = true) ∧ 0 ≤ S (26 + 3 * k + p) + wvF S pc k b - S (10 + k)) (fl (bsS R pc (R 2 k - R 6 (k * 3 + p)) (Int32.ofNat (alN (alF R k) pc 0 0))) d s a) (fl (msT (wvF S pc k) (S (26 + 3 * k + p)) (S (10 + k))) d s o) := by
    intro d
    induction d with
    | zero => intro s a o _ _ B; exact B
    | succ d ih =>
      intro s a o h1 h2 B
      exact ih (s + 1) _ _ (by omega) (by omega) (bs_step E A hk hp h1 (by omega) B)
  have sp : fl (msT (wvF S pc k) (S (26 + 3 * k + p)) (S (10 + k))) (2 ^ pc - 1) 1 (none, 0) = fl (msT (wvF S pc k) (S (26 + 3 * k + p)) (S (10 + k))) (alN (alF R k) pc 0 0) 1 (none, 0) := by
    have := fl_add (f := msT (wvF S pc k) (S (26 + 3 * k + p)) (S (10 + k))) (alN (alF R k) pc 0 0) (2 ^ pc - 1 - alN (alF R k) pc 0 0) 1 (none, 0)
    rw [show alN (alF R k) pc 0 0 + (2 ^ pc - 1 - alN (alF R k) pc 0 0) = 2 ^ pc - 1 by omega] at this
    rw [this]
    refine fl_idI _ _ _ (fun j h1 h2 => ?_)
    have c : ¬ ∀ x, j.testBit x = true → (alN (alF R k) pc 0 0).testBit x = true := fun z => by
      have := sub_le z
      omega
    unfold msT
    rw [if_pos ((wv_ok (k := k) E A (s := j) (by omega)).2 c)]
  rw [sp]
  exact go _ 1 _ _ (Nat.le_refl _) (by omega) ⟨rfl, fun b hb => by cases hb⟩
end BS
