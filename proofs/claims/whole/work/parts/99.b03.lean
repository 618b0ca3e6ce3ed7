-- ===== stops; the place of an item =====
theorem st_eq {f t pl : Nat → Int32} {x : Int32} : ∀ (d k : Nat), (∀ j, k ≤ j → j < k + d → f j = pl (17 + j) ∧ t j = pl (21 + j)) → gsGo f t x d k = stGo pl x d k := by
  intro d
  induction d with
  | zero => intro k _; rfl
  | succ d ih =>
    intro k h
    obtain ⟨h1, h2⟩ := h k (Nat.le_refl _) (by omega)
    have e := ih (k + 1) (fun j a b => h j (by omega) (by omega))
    show (if x < f k then gsGo f t x d (k + 1) else if t k < x then gsGo f t x d (k + 1) else true) = (if inF x (pl (17 + k)) (pl (21 + k)) = 0 then stGo pl x d (k + 1) else true)
    rw [h1, h2, e]
    unfold inF
    by_cases c1 : x < pl (17 + k)
    · rw [if_pos c1, if_pos c1, if_pos rfl]
    · rw [if_neg c1, if_neg c1]
      by_cases c2 : pl (21 + k) < x
      · rw [if_pos c2, if_pos c2, if_pos rfl]
      · rw [if_neg c2, if_neg c2, if_neg (by decide)]
theorem i32_sI {a b : Nat} (ha : a < 1000000000) (hb : b < 1000000000) : (Int32.ofNat a - Int32.ofNat b).toInt = (a : Int) - b := by
  rw [Int32.toInt_sub, i32_toInt (by omega), i32_toInt (by omega)]
  exact Int.bmod_eq_of_le (by omega) (by omega)
theorem i32_aI {x : Int32} {b : Nat} (h1 : -1000000000 < x.toInt) (h2 : x.toInt < 1000000000) (hb : b < 1000000000) : (x + Int32.ofNat b).toInt = x.toInt + b := by
  rw [Int32.toInt_add, i32_toInt (by omega)]
  exact Int.bmod_eq_of_le (by omega) (by omega)
section PL
variable {k i nb cw l t : Nat} {R : Nat → Nat → Int32} {S pl : Nat → Int32} {w room : Int32}
theorem ov_i {c p : Nat} (hS : S (26 + 3 * k + p) = Int32.ofNat c) (hw : S (208 + i) = Int32.ofNat cw) (ht : S (10 + k) = Int32.ofNat t) (hc : c ≤ 4800000) (hcw : cw ≤ 60000) (h3 : t ≤ 30000) : (plOv S k i p).toInt = (c : Int) + cw - t := by
  unfold plOv
  rw [hS, hw, ht, i32_add, i32_sI (by omega) (by omega)]
  omega
theorem fit_i {c p : Nat} (hS : S (26 + 3 * k + p) = Int32.ofNat c) (hw : S (208 + i) = Int32.ofNat cw) (ht : S (10 + k) = Int32.ofNat t) (hl : S 2 = Int32.ofNat l) (hR : R 6 (k * 3 + p) = Int32.ofNat c) (hc : c ≤ 4800000) (hcw : cw ≤ 60000) (h3 : t ≤ 30000) (h4 : l ≤ 9999) : inF (plOv S k i p) 0 (S 2) = 0 ↔ ssSkip R k p (Int32.ofNat t - Int32.ofNat cw) (Int32.ofNat t - Int32.ofNat cw + Int32.ofNat l) = true := by
  have o := ov_i hS hw ht hc hcw h3
  have lo := i32_sI (a := t) (b := cw) (by omega) (by omega)
  have hi := i32_aI (x := Int32.ofNat t - Int32.ofNat cw) (b := l) (by omega) (by omega) (by omega)
  have e1 : plOv S k i p < 0 ↔ (c : Int) + cw - t < 0 := by
    rw [Int32.lt_iff_toInt_lt, o]
    exact Iff.rfl
  have e2 : S 2 < plOv S k i p ↔ (l : Int) < (c : Int) + cw - t := by
    rw [Int32.lt_iff_toInt_lt, o, hl, i32_toInt (by omega)]
  have e3 : R 6 (k * 3 + p) < Int32.ofNat t - Int32.ofNat cw ↔ (c : Int) < (t : Int) - cw := by
    rw [Int32.lt_iff_toInt_lt, lo, hR, i32_toInt (by omega)]
  have e4 : Int32.ofNat t - Int32.ofNat cw + Int32.ofNat l < R 6 (k * 3 + p) ↔ (t : Int) - cw + l < c := by
    rw [Int32.lt_iff_toInt_lt, hi, lo, hR, i32_toInt (by omega)]
  unfold inF ssSkip
  by_cases c1 : (c : Int) + cw - t < 0
  · rw [if_pos (e1.mpr c1), decide_eq_true (e3.mpr (by omega))]
    exact ⟨fun _ => rfl, fun _ => rfl⟩
  · rw [if_neg (fun z => c1 (e1.mp z)), decide_eq_false (fun z => c1 (by have := e3.mp z; omega))]
    by_cases c2 : (l : Int) < (c : Int) + cw - t
    · rw [if_pos (e2.mpr c2), decide_eq_true (e4.mpr (by omega))]
      exact ⟨fun _ => rfl, fun _ => rfl⟩
    · rw [if_neg (fun z => c2 (e2.mp z)), decide_eq_false (fun z => c2 (by have := e4.mp z; omega))]
      exact ⟨fun z => absurd z (by decide), fun z => absurd z (by decide)⟩
theorem bel_i {c p : Nat} (hS : S (26 + 3 * k + p) = Int32.ofNat c) (hw : S (208 + i) = Int32.ofNat cw) (ht : S (10 + k) = Int32.ofNat t) (hR : R 6 (k * 3 + p) = Int32.ofNat c) (hc : c ≤ 4800000) (hcw : cw ≤ 60000) (h3 : t ≤ 30000) : plOv S k i p < 0 ↔ R 6 (k * 3 + p) < Int32.ofNat t - Int32.ofNat cw := by
  have o := ov_i hS hw ht hc hcw h3
  have lo := i32_sI (a := t) (b := cw) (by omega) (by omega)
  rw [Int32.lt_iff_toInt_lt, o, Int32.lt_iff_toInt_lt, lo, hR, i32_toInt (by omega)]
  show (c : Int) + cw - t < 0 ↔ _
  omega
/-- the best so far, and its content -/
def bsR (R : Nat → Nat → Int32) (k : Nat) (f : Option Nat) (a : Option Nat × Int32) : Prop := a.1 = f ∧ ∀ c, f = some c → c < 3 ∧ a.2 = R 6 (k * 3 + c)
theorem pl_go (hk : k < 4) (hw : S (208 + i) = Int32.ofNat cw) (ht : S (10 + k) = Int32.ofNat t) (hl : S 2 = Int32.ofNat l) (h1 : S 1 = R 0 1) (hcw : cw ≤ 60000) (h3 : t ≤ 30000) (h4 : l ≤ 9999) (C : EqC R S) (IC : IvC 80 R) : ∀ (d q : Nat) (f b : Option Nat) (g : Nat) (a1 a2 a3 : Option Nat × Int32), q + d ≤ 3 → bsR R k f a1 → bsR R k b a2 → (q = 0 ∧ a3.1 = none ∧ g = 0 ∨ 0 < q ∧ bsR R k (some g) a3) →
    bsR R k (plGo S k i d q f b g).1 (ssGo R k (Int32.ofNat t - Int32.ofNat cw) (Int32.ofNat t - Int32.ofNat cw + Int32.ofNat l) d q a1) ∧ bsR R k (plGo S k i d q f b g).2.1 (prGo R k (Int32.ofNat t - Int32.ofNat cw) d q a2) ∧ (q + d = 0 ∨ bsR R k (some (plGo S k i d q f b g).2.2) (ssGo R k 0 2147483647 d q a3)) := by
  intro d
  induction d with
  | zero =>
    intro q f b g a1 a2 a3 hq B1 B2 B3
    refine ⟨B1, B2, ?_⟩
    rcases B3 with ⟨e, -⟩ | ⟨-, B3⟩
    · exact Or.inl (by omega)
    · exact Or.inr B3
  | succ d ih =>
    intro q f b g a1 a2 a3 hq B1 B2 B3
    obtain ⟨c, hc, hR⟩ := IC k q hk (by omega)
    have hS : S (26 + 3 * k + q) = Int32.ofNat c := by rw [C k q hk (by omega), hR]
    have eR : ∀ p, p < 3 → S (26 + 3 * k + p) = R 6 (k * 3 + p) := fun p hp => C k p hk hp
    have N1 : bsR R k (plFit S k i q f) (ssStep R k q (Int32.ofNat t - Int32.ofNat cw) (Int32.ofNat t - Int32.ofNat cw + Int32.ofNat l) a1) := by
      have fi := fit_i hS hw ht hl hR (by omega) hcw h3 h4
      obtain ⟨x1, x2⟩ := B1
      unfold plFit ssStep
      by_cases c1 : inF (plOv S k i q) 0 (S 2) = 0
      · rw [if_pos c1, if_pos (fi.mp c1)]
        exact ⟨x1, x2⟩
      · rw [if_neg c1, if_neg (fun z => c1 (fi.mpr z))]
        cases f with
        | none =>
          rw [if_pos (Or.inl x1)]
          exact ⟨rfl, fun y hy => by cases hy; exact ⟨by omega, rfl⟩⟩
        | some y =>
          obtain ⟨y3, ye⟩ := x2 y rfl
          show bsR R k (if S (26 + 3 * k + q) < S (26 + 3 * k + y) then some q else some y) _
          rw [eR q (by omega), eR y y3, x1, ye]
          by_cases c2 : R 6 (k * 3 + q) < R 6 (k * 3 + y)
          · rw [if_pos c2, if_pos (Or.inr c2)]
            exact ⟨rfl, fun y hy => by cases hy; exact ⟨by omega, rfl⟩⟩
          · rw [if_neg c2, if_neg (fun z => by rcases z with z | z; cases z; exact c2 z)]
            exact ⟨x1, x2⟩
    have N2 : bsR R k (plBel S k i q b) (prStep R k q (Int32.ofNat t - Int32.ofNat cw) a2) := by
      have be := bel_i (R := R) hS hw ht hR (by omega) hcw h3
      obtain ⟨x1, x2⟩ := B2
      unfold plBel prStep
      by_cases c1 : plOv S k i q < 0
      · rw [if_pos c1, if_pos (be.mp c1)]
        cases b with
        | none =>
          rw [if_pos (Or.inl x1)]
          exact ⟨rfl, fun y hy => by cases hy; exact ⟨by omega, rfl⟩⟩
        | some y =>
          obtain ⟨y3, ye⟩ := x2 y rfl
          show bsR R k (if chB (S 1) (S (26 + 3 * k + q)) (S (26 + 3 * k + y)) = true then some q else some y) _
          rw [eR q (by omega), eR y y3, h1, x1, ye]
          by_cases c2 : chB (R 0 1) (R 6 (k * 3 + q)) (R 6 (k * 3 + y)) = true
          · rw [if_pos c2, if_pos (Or.inr c2)]
            exact ⟨rfl, fun y hy => by cases hy; exact ⟨by omega, rfl⟩⟩
          · rw [if_neg c2, if_neg (fun z => by rcases z with z | z; cases z; exact c2 z)]
            exact ⟨x1, x2⟩
      · rw [if_neg c1, if_neg (fun z => c1 (be.mpr z))]
        exact ⟨x1, x2⟩
    have N3 : bsR R k (some (plLst S k q g)) (ssStep R k q 0 2147483647 a3) := by
      have ns : ¬ ssSkip R k q 0 2147483647 = true := by
        unfold ssSkip
        rw [hR, decide_eq_false, decide_eq_false]
        · decide
        · show ¬ Int32.ofNat 2147483647 < Int32.ofNat c
          rw [i32_lt (by omega) (by omega)]; omega
        · show ¬ Int32.ofNat c < Int32.ofNat 0
          rw [i32_lt (by omega) (by omega)]; omega
      unfold ssStep plLst
      rw [if_neg ns]
      rcases B3 with ⟨e, e2, e3⟩ | ⟨e, x1, x2⟩
      · rw [if_pos (Or.inl e2), e, e3, if_neg (fun z => Int32.lt_irrefl z)]
        exact ⟨rfl, fun y hy => by cases hy; exact ⟨by omega, rfl⟩⟩
      · obtain ⟨y3, ye⟩ := x2 g rfl
        rw [eR q (by omega), eR g y3, x1, ye]
        by_cases c2 : R 6 (k * 3 + q) < R 6 (k * 3 + g)
        · rw [if_pos c2, if_pos (Or.inr c2)]
          exact ⟨rfl, fun y hy => by cases hy; exact ⟨by omega, rfl⟩⟩
        · rw [if_neg c2, if_neg (fun z => by rcases z with z | z; cases z; exact c2 z)]
          exact ⟨x1, x2⟩
    obtain ⟨r1, r2, r3⟩ := ih (q + 1) _ _ _ _ _ _ (by omega) N1 N2 (Or.inr ⟨by omega, N3⟩)
    refine ⟨r1, r2, Or.inr ?_⟩
    rcases r3 with r3 | r3
    · omega
    · exact r3
theorem pl_eq (hk : k < 4) (hnb : 1 ≤ nb ∧ nb ≤ 3) (hw : S (208 + i) = Int32.ofNat cw) (hw2 : w = Int32.ofNat cw) (ht : S (10 + k) = Int32.ofNat t) (ht2 : R 2 k = Int32.ofNat t) (hl : S 2 = Int32.ofNat l) (hl2 : R 0 2 = Int32.ofNat l) (h1 : S 1 = R 0 1) (h7 : S 7 = R 0 5) (hr : pl 2 = room) (hcw : cw ≤ 60000) (h3 : t ≤ 30000) (h4 : l ≤ 9999) (C : EqC R S) (IC : IvC 80 R) : placeF S pl k i nb = gchF R k w room nb := by
  obtain ⟨⟨a1, a2⟩, ⟨b1, b2⟩, c3⟩ := pl_go (R := R) hk hw ht hl h1 hcw h3 h4 C IC nb 0 none none 0 (none, 0) (none, 0) (none, 0) (by omega) ⟨rfl, fun y hy => by cases hy⟩ ⟨rfl, fun y hy => by cases hy⟩ (Or.inl ⟨rfl, rfl, rfl⟩)
  obtain ⟨c1, -⟩ : bsR R k _ _ := by
    rcases c3 with z | z
    · omega
    · exact z
  unfold placeF gchF
  rw [ht2, hl2, hw2, a1, b1, c1, hr, h7]
  generalize plGo S k i nb 0 none none 0 = r
  obtain ⟨f, b, g⟩ := r
  cases f with
  | some y => rfl
  | none =>
    cases b with
    | some y => rfl
    | none =>
      show (if decide (room ≤ R 0 5) = true then some g else none) = (if R 0 5 < room then none else some g)
      by_cases c : R 0 5 < room
      · rw [if_pos c, decide_eq_false (Int32.not_le.mpr c), if_neg Bool.false_ne_true]
      · rw [if_neg c, decide_eq_true (Int32.not_lt.mp c), if_pos rfl]
theorem IvC_80 {x : Nat} (hx : x ≤ 80) (A : IvC x R) : IvC 80 R := fun k p hk hp => by
  obtain ⟨c, hc, e⟩ := A k p hk hp
  exact ⟨c, by omega, e⟩
end PL
