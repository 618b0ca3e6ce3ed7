-- ===== words in rows of words; packed names: pure =====
theorem fnd_iff {p : Nat → Bool} : ∀ d i, (fnd p d i).isSome = true ↔ ∃ j, i ≤ j ∧ j < i + d ∧ p j = true := by
  intro d
  induction d with
  | zero =>
    intro i
    refine ⟨fun q => (by cases q), fun ⟨j, a, b, _⟩ => (by omega)⟩
  | succ d ih =>
    intro i
    unfold fnd
    cases c : p i with
    | true =>
      rw [if_pos rfl]
      exact ⟨fun _ => ⟨i, Nat.le_refl _, by omega, c⟩, fun _ => rfl⟩
    | false =>
      rw [if_neg Bool.false_ne_true, ih (i + 1)]
      refine ⟨fun ⟨j, a, b, e⟩ => ⟨j, by omega, by omega, e⟩, fun ⟨j, a, b, e⟩ => ⟨j, ?_, by omega, e⟩⟩
      by_cases q : j = i
      · rw [q, c] at e; cases e
      · omega
theorem fnd_c {p q : Nat → Bool} : ∀ d i, (∀ j, i ≤ j → j < i + d → p j = q j) → fnd p d i = fnd q d i := by
  intro d
  induction d with
  | zero => intro i _; rfl
  | succ d ih =>
    intro i e
    unfold fnd
    rw [e i (Nat.le_refl _) (by omega), ih (i + 1) (fun j a b => e j (by omega) (by omega))]
theorem rn_all {q : Nat → Bool} {m : Nat} : rn q m 0 = m ↔ ∀ i, i < m → q i = true := by
  have h1 := rn_le (q := q) m 0
  refine ⟨fun e i hi => rn_in m 0 i (Nat.zero_le _) (by omega), fun a => ?_⟩
  by_cases c : rn q m 0 < m
  · have := rn_end (q := q) m 0 (by omega)
    rw [a _ c] at this
    cases this
  · omega
theorem txB_iff {T ch : Nat → Nat} {t : Tok} {m : Nat} : txB T t m ch = true ↔ m = t.2.1 - t.1 ∧ ∀ i, i < m → T (t.1 + i) = ch i := by
  unfold txB
  rw [Bool.and_eq_true]
  refine ⟨fun ⟨a, b⟩ => ⟨of_decide_eq_true a, fun i hi => ?_⟩, fun ⟨a, b⟩ => ⟨decide_eq_true a, ?_⟩⟩
  · by_cases c : T (t.1 + i) = ch i
    · exact c
    · have : (fnd (fun i => decide (T (t.1 + i) ≠ ch i)) m 0).isSome = true := (fnd_iff m 0).mpr ⟨i, Nat.zero_le _, by omega, decide_eq_true c⟩
      revert b this
      cases fnd (fun i => decide (T (t.1 + i) ≠ ch i)) m 0 with
      | none => intro _ q; cases q
      | some k => intro q; cases q
  · cases e : fnd (fun i => decide (T (t.1 + i) ≠ ch i)) m 0 with
    | none => rfl
    | some k =>
      have : (fnd (fun i => decide (T (t.1 + i) ≠ ch i)) m 0).isSome = true := by rw [e]; rfl
      obtain ⟨j, _, j2, j3⟩ := (fnd_iff m 0).mp this
      exact absurd (b j (by omega)) (of_decide_eq_true j3)
theorem isS_iff {T ch : Nat → Nat} {t : Tok} {m : Nat} : isS T t m ch = true ↔ ∃ k, k + (t.2.1 - t.1) + 1 < m ∧ ch k = 32 ∧ ch (k + 1 + (t.2.1 - t.1)) = 32 ∧ ∀ i, i < t.2.1 - t.1 → ch (k + 1 + i) = T (t.1 + i) := by
  unfold isS
  rw [fnd_iff]
  refine ⟨fun ⟨k, _, b, e⟩ => ?_, fun ⟨k, a, b, c, d⟩ => ⟨k, Nat.zero_le _, by omega, ?_⟩⟩
  · unfold mtK at e
    rw [Bool.and_eq_true, Bool.and_eq_true] at e
    exact ⟨k, by omega, of_decide_eq_true e.2.1, of_decide_eq_true e.2.2, fun i hi => of_decide_eq_true (rn_all.mp (of_decide_eq_true e.1) i hi)⟩
  · unfold mtK
    rw [Bool.and_eq_true, Bool.and_eq_true]
    exact ⟨decide_eq_true (rn_all.mpr fun i hi => decide_eq_true (d i hi)), decide_eq_true b, decide_eq_true c⟩
theorem b_ext {a b : Bool} (h : a = true ↔ b = true) : a = b := by
  cases a <;> cases b
  · rfl
  · exact (h.mpr rfl)
  · exact (h.mp rfl).symm
  · rfl
/-- letters only -/
def tLe (T : Nat → Nat) (t : Tok) : Prop := t.1 < t.2.1 ∧ t.2.1 ≤ t.1 + 9 ∧ ∀ j, t.1 ≤ j → j < t.2.1 → 97 ≤ T j ∧ T j ≤ 122
theorem tok_l {T : Nat → Nat} {n p : Nat} (h2 : (tok T n p).2.2.1 = 2) : tLe T (tok T n p) := by
  unfold tok tokS at h2 ⊢
  generalize rn (isB T) (n - p) p = s at h2 ⊢
  by_cases c1 : n ≤ s
  · rw [if_pos c1] at h2
    cases h2
  · rw [if_neg c1] at h2 ⊢
    by_cases c2 : isL T s = true
    · rw [if_pos c2] at h2 ⊢
      have h2 : (if 9 < rn (isL T) (n - s) s - s then 1 else 2) = 2 := h2
      have h3 : ¬ 9 < rn (isL T) (n - s) s - s := fun q => by
        rw [if_pos q] at h2
        cases h2
      refine ⟨?_, ?_, fun j a b => ?_⟩
      · show s < rn (isL T) (n - s) s
        obtain ⟨k, hk⟩ : ∃ k, n - s = k + 1 := ⟨n - s - 1, by omega⟩
        have e : rn (isL T) (k + 1) s = rn (isL T) k (s + 1) := if_pos c2
        have := (rn_le (q := isL T) k (s + 1)).1
        rw [hk, e]; omega
      · show rn (isL T) (n - s) s ≤ s + 9
        omega
      · exact of_decide_eq_true (rn_in (q := isL T) (n - s) s j a b)
    · rw [if_neg c2] at h2
      by_cases c3 : isD T s = true
      · rw [if_pos c3] at h2
        have h2 : (if 6 < rn (isD T) (n - s) s - s then 1 else 3) = 2 := h2
        split at h2 <;> cases h2
      · rw [if_neg c3] at h2
        have h2 : (if T s = 59 then 4 else 1) = 2 := h2
        split at h2 <;> cases h2
theorem kw_ok {i : Nat} (hi : i < 15) : 3 ≤ kwN i ∧ kwN i ≤ 9 ∧ ∀ j, j < kwN i → 97 ≤ kwC i j ∧ kwC i j ≤ 122 := by
  have : ∀ i : Fin 15, 3 ≤ kwN i.val ∧ kwN i.val ≤ 9 ∧ ∀ j : Fin 9, j.val < kwN i.val → 97 ≤ kwC i.val j.val ∧ kwC i.val j.val ≤ 122 := by decide +kernel
  obtain ⟨a, b, c⟩ := this ⟨i, hi⟩
  exact ⟨a, b, fun j hj => c ⟨j, by have : kwN i ≤ 9 := b; omega⟩ hj⟩
theorem isK_2 {T : Nat → Nat} {n p i : Nat} (hi : i < 15) (e : isK T (tok T n p) i = true) : (tok T n p).2.2.1 = 2 := by
  obtain ⟨a, b, c⟩ := kw_ok hi
  obtain ⟨e1, e2⟩ := txB_iff.mp e
  have e3 := e2 0 (by omega)
  have c0 := c 0 (by omega)
  rw [← e3] at c0
  clear e e2 e3 c
  revert e1 c0
  unfold tok tokS
  generalize rn (isB T) (n - p) p = s
  by_cases c1 : n ≤ s
  · rw [if_pos c1]
    intro e1
    have e1 : kwN i = s - s := e1
    omega
  · rw [if_neg c1]
    by_cases c2 : isL T s = true
    · rw [if_pos c2]
      intro e1 _
      have e1 : kwN i = rn (isL T) (n - s) s - s := e1
      show (if 9 < rn (isL T) (n - s) s - s then 1 else 2) = 2
      rw [if_neg (by omega)]
    · rw [if_neg c2]
      intro _ c0
      have c0 : 97 ≤ T s ∧ T s ≤ 122 := by
        by_cases c3 : isD T s = true
        · rw [if_pos c3] at c0; exact c0
        · rw [if_neg c3] at c0; exact c0
      exact absurd (decide_eq_true c0) c2
/-- a keyword between blanks -/
def spC (i j : Nat) : Nat := if j = 0 then 32 else if j = kwN i + 1 then 32 else kwC i (j - 1)
theorem isS_k {T : Nat → Nat} {t : Tok} {i : Nat} (hi : i < 15) (L : tLe T t) : isS T t (kwN i + 2) (spC i) = isK T t i := by
  obtain ⟨l1, l2, l3⟩ := L
  obtain ⟨a, b, c⟩ := kw_ok hi
  apply b_ext
  unfold isK
  rw [isS_iff, txB_iff]
  refine ⟨fun ⟨k, x1, x2, x3, x4⟩ => ?_, fun ⟨x1, x2⟩ => ⟨0, by omega, rfl, ?_, fun j hj => ?_⟩⟩
  · have k0 : k = 0 := by
      by_cases q : k = 0
      · exact q
      · have : spC i k = kwC i (k - 1) := by
          unfold spC
          rw [if_neg q, if_neg (by omega)]
        rw [this] at x2
        have := c (k - 1) (by omega)
        omega
    subst k0
    have m0 : kwN i = t.2.1 - t.1 := by
      by_cases q : kwN i = t.2.1 - t.1
      · exact q
      · have : spC i (0 + 1 + (t.2.1 - t.1)) = kwC i (t.2.1 - t.1) := by
          unfold spC
          rw [if_neg (by omega), if_neg (by omega), show 0 + 1 + (t.2.1 - t.1) - 1 = t.2.1 - t.1 by omega]
        rw [this] at x3
        have := c (t.2.1 - t.1) (by omega)
        omega
    refine ⟨m0, fun j hj => ?_⟩
    rw [← x4 j (by omega)]
    unfold spC
    rw [if_neg (by omega), if_neg (by omega), show 0 + 1 + j - 1 = j by omega]
  · show spC i (0 + 1 + (t.2.1 - t.1)) = 32
    unfold spC
    rw [if_neg (by omega), if_pos (by omega)]
  · rw [x2 j (by omega)]
    unfold spC
    rw [if_neg (by omega), if_neg (by omega), show 0 + 1 + j - 1 = j by omega]
def rvS : String := " grader reference margin limit pool ice stop species target quota boxes price item and vote "
def rvN : Nat := 92
def rvC (k : Nat) : Nat := wC rvS k
def stR (i : Nat) : Nat := ([0, 7, 17, 24, 30, 35, 39, 44, 52, 59, 65, 71, 77, 82, 86]).getD i 0
theorem rv_a {i : Nat} (hi : i < 15) : stR i + kwN i + 1 < rvN ∧ rvC (stR i) = 32 ∧ rvC (stR i + 1 + kwN i) = 32 ∧ ∀ j, j < kwN i → rvC (stR i + 1 + j) = kwC i j := by
  have : ∀ i : Fin 15, stR i.val + kwN i.val + 1 < rvN ∧ rvC (stR i.val) = 32 ∧ rvC (stR i.val + 1 + kwN i.val) = 32 ∧ ∀ j : Fin 9, j.val < kwN i.val → rvC (stR i.val + 1 + j.val) = kwC i.val j.val := by decide +kernel
  obtain ⟨a, b, c, d⟩ := this ⟨i, hi⟩
  exact ⟨a, b, c, fun j hj => d ⟨j, by have := (kw_ok hi).2.1; omega⟩ hj⟩
theorem rv_b {k : Nat} (hk : k < rvN) (e : rvC k = 32) : k + 1 = rvN ∨ ∃ i, i < 15 ∧ k = stR i := by
  have : ∀ k : Fin 92, rvC k.val = 32 → k.val + 1 = rvN ∨ ∃ i : Fin 15, k.val = stR i.val := by decide +kernel
  rcases this ⟨k, hk⟩ e with a | ⟨i, a⟩
  · exact Or.inl a
  · exact Or.inr ⟨i.val, i.isLt, a⟩
theorem isS_r {T : Nat → Nat} {t : Tok} (L : tLe T t) : isS T t rvN rvC = (fnd (isK T t) 15 0).isSome := by
  obtain ⟨l1, l2, l3⟩ := L
  apply b_ext
  rw [isS_iff, fnd_iff]
  refine ⟨fun ⟨k, x1, x2, x3, x4⟩ => ?_, fun ⟨i, _, i2, x⟩ => ?_⟩
  · rcases rv_b (by omega) x2 with q | ⟨i, hi, rfl⟩
    · omega
    · obtain ⟨a, b, c⟩ := kw_ok hi
      obtain ⟨y1, y2, y3, y4⟩ := rv_a hi
      refine ⟨i, Nat.zero_le _, by omega, txB_iff.mpr ?_⟩
      have m0 : kwN i = t.2.1 - t.1 := by
        rcases Nat.lt_trichotomy (kwN i) (t.2.1 - t.1) with q | q | q
        · have z := x4 (kwN i) q
          rw [y3] at z
          have := l3 (t.1 + kwN i) (by omega) (by omega)
          omega
        · exact q
        · have z := y4 (t.2.1 - t.1) q
          rw [x3] at z
          have := c (t.2.1 - t.1) q
          omega
      exact ⟨m0, fun j hj => by rw [← x4 j (by omega), y4 j hj]⟩
  · obtain ⟨y1, y2, y3, y4⟩ := rv_a (i := i) (by omega)
    obtain ⟨x1, x2⟩ := txB_iff.mp x
    exact ⟨stR i, by omega, y2, by rw [← x1]; exact y3, fun j hj => by rw [y4 j (by omega), x2 j (by omega)]⟩
-- packed names
theorem fl_snoc {A : Type} {f : Nat → A → A} : ∀ (d i : Nat) (a : A), fl f (d + 1) i a = f (i + d) (fl f d i a) := by
  intro d
  induction d with
  | zero => intro i a; rfl
  | succ d ih =>
    intro i a
    show fl f (d + 1) (i + 1) (f i a) = f (i + (d + 1)) (fl f d (i + 1) (f i a))
    rw [ih (i + 1) (f i a), show i + 1 + d = i + (d + 1) by omega]
def pkN (x : Nat × (Nat → Nat)) : Nat := fl (fun j w => 32 * w + (x.2 j - 96)) x.1 0 0
def nmO (x : Nat × (Nat → Nat)) : Prop := 0 < x.1 ∧ x.1 ≤ 9 ∧ ∀ j, j < x.1 → 97 ≤ x.2 j ∧ x.2 j ≤ 122
theorem pkn_lt {c : Nat → Nat} : ∀ l, (∀ j, j < l → 97 ≤ c j ∧ c j ≤ 122) → pkN (l, c) < 32 ^ l ∧ (0 < l → 0 < pkN (l, c)) := by
  intro l
  induction l with
  | zero => intro _; exact ⟨Nat.one_pos, fun q => by omega⟩
  | succ l ih =>
    intro hc
    have e : pkN (l + 1, c) = 32 * pkN (l, c) + (c (0 + l) - 96) := fl_snoc l 0 0
    have h1 := (ih fun j hj => hc j (by omega)).1
    have h2 := hc (0 + l) (by omega)
    rw [e, Nat.pow_succ]
    exact ⟨by omega, fun _ => by omega⟩
theorem pk_inj {c c' : Nat → Nat} : ∀ l l', (∀ j, j < l → 97 ≤ c j ∧ c j ≤ 122) → (∀ j, j < l' → 97 ≤ c' j ∧ c' j ≤ 122) → pkN (l, c) = pkN (l', c') → l = l' ∧ ∀ j, j < l → c j = c' j := by
  intro l
  induction l with
  | zero =>
    intro l' _ hc' e
    have h2 := (pkn_lt l' hc').2
    have e0 : pkN (0, c) = 0 := rfl
    rw [e0] at e
    refine ⟨by omega, fun j hj => by omega⟩
  | succ l ih =>
    intro l' hc hc' e
    cases l' with
    | zero =>
      have h2 := (pkn_lt (l + 1) hc).2 (by omega)
      have e0 : pkN (0, c') = 0 := rfl
      omega
    | succ l' =>
      have e1 : pkN (l + 1, c) = 32 * pkN (l, c) + (c (0 + l) - 96) := fl_snoc l 0 0
      have e2 : pkN (l' + 1, c') = 32 * pkN (l', c') + (c' (0 + l') - 96) := fl_snoc l' 0 0
      have h1 := hc (0 + l) (by omega)
      have h2 := hc' (0 + l') (by omega)
      rw [e1, e2] at e
      obtain ⟨r1, r2⟩ := ih l' (fun j hj => hc j (by omega)) (fun j hj => hc' j (by omega)) (by omega)
      refine ⟨by omega, fun j hj => ?_⟩
      by_cases q : j = l
      · rw [q]
        rw [Nat.zero_add] at e h1
        rw [Nat.zero_add] at e h2
        rw [← r1] at e h2
        omega
      · exact r2 j (by omega)
def tkT (T : Nat → Nat) (t : Tok) : Nat × (Nat → Nat) := (t.2.1 - t.1, fun j => T (t.1 + j))
theorem wd_pk {T : Nat → Nat} {s : Nat} : ∀ d i v, i + d ≤ 9 → fl (wdS T s) d (s + i) v = fl (fun j w => 32 * w + (T (s + j) - 96)) d i v := by
  intro d
  induction d with
  | zero => intro i v _; rfl
  | succ d ih =>
    intro i v h
    show fl (wdS T s) d (s + i + 1) (wdS T s (s + i) v) = fl (fun j w => 32 * w + (T (s + j) - 96)) d (i + 1) (32 * v + (T (s + i) - 96))
    rw [show s + i + 1 = s + (i + 1) by omega, ih (i + 1) _ (by omega)]
    congr 1
    unfold wdS
    rw [if_pos (by omega)]
theorem wdF_pk {T : Nat → Nat} {t : Tok} (L : tLe T t) : wdF T t = pkN (tkT T t) := by
  unfold wdF pkN
  have := wd_pk (T := T) (s := t.1) (t.2.1 - t.1) 0 0 (by have := L.2.1; omega)
  exact this
theorem tkT_ok {T : Nat → Nat} {t : Tok} (L : tLe T t) : nmO (tkT T t) := by
  obtain ⟨l1, l2, l3⟩ := L
  refine ⟨by show 0 < t.2.1 - t.1; omega, by show t.2.1 - t.1 ≤ 9; omega, fun j hj => ?_⟩
  have hj : j < t.2.1 - t.1 := hj
  exact l3 (t.1 + j) (by omega) (by omega)
theorem nm_lt {x : Nat × (Nat → Nat)} (X : nmO x) : pkN x < 2 ^ 45 := by
  obtain ⟨x1, x2, x3⟩ := X
  have h := (pkn_lt x.1 x3).1
  have : 32 ^ x.1 ≤ 32 ^ 9 := Nat.pow_le_pow_right (by decide) x2
  have e : (32 : Nat) ^ 9 = 2 ^ 45 := by decide
  have h : pkN x < 32 ^ x.1 := h
  omega
theorem i64_ne {a b : Nat} (ha : a < 2 ^ 45) (hb : b < 2 ^ 45) : Int64.ofNat a = Int64.ofNat b ↔ a = b := by
  refine ⟨fun q => ?_, fun q => by rw [q]⟩
  have := congrArg Int64.toInt q
  rw [Int64.toInt_ofNat_of_lt (by omega), Int64.toInt_ofNat_of_lt (by omega)] at this
  omega
/-- the model's names -/
def NMM (N : Nat → Int64) (ns : Nat) (nm : Nat → Nat × (Nat → Nat)) : Prop := ∀ k, k < ns → N k = Int64.ofNat (pkN (nm k)) ∧ nmO (nm k)
theorem nm_fnd {T : Nat → Nat} {t : Tok} {N : Nat → Int64} {ns : Nat} {nm : Nat → Nat × (Nat → Nat)} (L : tLe T t) (M : NMM N ns nm) : fnd (fun k => decide (N k = Int64.ofNat (wdF T t))) ns 0 = pKi T nm ns t := by
  unfold pKi
  refine fnd_c ns 0 fun k _ hk => ?_
  obtain ⟨m1, m2⟩ := M k (by omega)
  have L2 := tkT_ok L
  apply b_ext
  rw [txB_iff]
  show decide (N k = Int64.ofNat (wdF T t)) = true ↔ _
  rw [m1, wdF_pk L, decide_eq_true_iff, i64_ne (nm_lt m2) (nm_lt L2)]
  refine ⟨fun e => ?_, fun ⟨e1, e2⟩ => ?_⟩
  · obtain ⟨r1, r2⟩ := pk_inj (c := (nm k).2) (c' := (tkT T t).2) (nm k).1 (tkT T t).1 m2.2.2 L2.2.2 e
    exact ⟨r1, fun i hi => (r2 i hi).symm⟩
  · unfold pkN
    have : (nm k).1 = (tkT T t).1 := e1
    rw [← this]
    refine fl_congr _ _ _ fun j x _ hj => ?_
    rw [← e2 j (by omega)]
    rfl
