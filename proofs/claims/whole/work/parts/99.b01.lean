-- ===== the class's rows and the model's row: what they have in common =====
def EqS (R : Nat → Nat → Int32) (S : Nat → Int32) : Prop := S 0 = R 0 0 ∧ S 1 = R 0 1 ∧ S 2 = R 0 2 ∧ S 3 = R 0 3 ∧ S 4 = R 0 4 ∧ S 7 = R 0 5 ∧ S 5 = R 7 1 ∧ S 9 = R 7 0 ∧ S 8 = R 13 0
def EqP (pc : Nat) (R : Nat → Nat → Int32) (S : Nat → Int32) : Prop := ∀ j, j < pc → S (38 + j) = R 1 j
def EqT (ns : Nat) (R : Nat → Nat → Int32) (S : Nat → Int32) : Prop := ∀ k, k < ns → S (10 + k) = R 2 k ∧ S (14 + k) = R 3 k
def EqL (R : Nat → Nat → Int32) (S : Nat → Int32) : Prop := ∀ k, k < 4 → S (18 + k) = R 4 k ∧ S (22 + k) = R 5 k
def EqC (R : Nat → Nat → Int32) (S : Nat → Int32) : Prop := ∀ k p, k < 4 → p < 3 → S (26 + 3 * k + p) = R 6 (k * 3 + p)
def EqI (m : Nat) (R : Nat → Nat → Int32) (S : Nat → Int32) : Prop := ∀ j, j < m → S (208 + j) = R 8 j ∧ S (288 + j) = R 9 j ∧ S (48 + j) = R 10 j ∧ S (128 + j) = R 11 j
def EqV (m : Nat) (R : Nat → Nat → Int32) (S : Nat → Int32) : Prop := ∀ j k, j < m → k < 4 → S (368 + 4 * j + k) = R 12 (j * 4 + k)
def EqB (n : Nat) (du : Int32) (R : Nat → Nat → Int32) (S : Nat → Int32) : Prop := ∀ b, b < n → S (688 + b) = R 14 b ∧ S (768 + b) = R 15 b ∧ S (848 + b) = R 15 b - R 16 b ∧ S (928 + b) = R 17 b ∧ S (1008 + b) = R 17 b + du ∧ S (1088 + b) = R 18 b
def EqR (ns m pc n : Nat) (du : Int32) (R : Nat → Nat → Int32) (S : Nat → Int32) : Prop := EqS R S ∧ EqP pc R S ∧ EqT ns R S ∧ EqL R S ∧ EqC R S ∧ EqI m R S ∧ EqV m R S ∧ EqB n du R S
-- what the class's rows keep
def IvN (ns m i pc n q tm : Nat) (R : Nat → Nat → Int32) : Prop := (R 0 0 = Int32.ofNat tm ∧ R 0 5 = Int32.ofNat pc ∧ R 7 0 = Int32.ofNat m ∧ R 7 1 = Int32.ofNat i ∧ R 13 0 = Int32.ofNat n ∧ R 13 1 = Int32.ofNat q) ∧ (i ≤ m ∧ m ≤ 80 ∧ n + pc ≤ i ∧ pc ≤ 10 ∧ q ≤ n ∧ tm ≤ 1000000 ∧ ns ≤ 4)
def IvT (ns : Nat) (R : Nat → Nat → Int32) : Prop := (∃ l, l ≤ 9999 ∧ R 0 2 = Int32.ofNat l) ∧ ∀ k, k < ns → ∃ t, 1 ≤ t ∧ t ≤ 30000 ∧ R 2 k = Int32.ofNat t
def IvC (x : Nat) (R : Nat → Nat → Int32) : Prop := ∀ k p, k < 4 → p < 3 → ∃ c, c ≤ 60000 * x ∧ R 6 (k * 3 + p) = Int32.ofNat c
def IvI (ns m i : Nat) (R : Nat → Nat → Int32) : Prop := ∀ j, j < m → (∃ w, w ≤ 60000 ∧ R 8 j = Int32.ofNat w) ∧ (R 9 j = -1 ∨ ∃ k, k < ns ∧ R 9 j = Int32.ofNat k) ∧ ((R 10 j = 0 ∨ R 10 j = 1 ∨ R 10 j = 2 ∨ R 10 j = 3) ∧ R 11 j = -1 ∨ (R 10 j = 4 ∨ R 10 j = 5)) ∧ (i ≤ j → R 10 j = 0)
def IvV (ns m : Nat) (R : Nat → Nat → Int32) : Prop := ∀ j k, j < m → k < 4 → (∃ s, s ≤ 495 ∧ R 12 (j * 4 + k) = Int32.ofNat s) ∧ (ns ≤ k → R 12 (j * 4 + k) = 0)
def IvP (ns i pc : Nat) (R : Nat → Nat → Int32) : Prop := (∀ j, j < pc → ∃ x k, x < i ∧ k < ns ∧ R 1 j = Int32.ofNat x ∧ R 10 x = 3 ∧ R 9 x = Int32.ofNat k) ∧ ∀ j j', j < pc → j' < pc → R 1 j = R 1 j' → j = j'
def IvB (ns n q tm : Nat) (R : Nat → Nat → Int32) : Prop := (∀ b, b < n → (∃ k, k < ns ∧ R 14 b = Int32.ofNat k) ∧ (∃ w t, R 15 b = Int32.ofNat w ∧ R 16 b = Int32.ofNat t ∧ 1 ≤ t ∧ t ≤ 30000 ∧ t ≤ w ∧ w ≤ 4800000) ∧ (∃ t, t ≤ tm ∧ R 17 b = Int32.ofNat t) ∧ (b < q → ∃ t, t ≤ tm ∧ R 18 b = Int32.ofNat t) ∧ (q ≤ b → R 18 b = -1)) ∧ ∀ b b', b ≤ b' → b' < n → (R 17 b).toNatClampNeg ≤ (R 17 b').toNatClampNeg
def IvR (ns m i pc n q tm : Nat) (R : Nat → Nat → Int32) : Prop := IvN ns m i pc n q tm R ∧ IvT ns R ∧ IvC (i - pc) R ∧ IvI ns m i R ∧ IvV ns m R ∧ IvP ns i pc R ∧ IvB ns n q tm R
/-- the model's count of rejected items is the class's -/
def EqJ (m : Nat) (R : Nat → Nat → Int32) (S : Nat → Int32) : Prop := S 6 = fl (ftS R 1) m 0 0
-- ===== time and ice =====
section TI
variable {ns m i pc n q tm : Nat} {du per me mk sto : Int32} {R : Nat → Nat → Int32} {S pl : Nat → Int32}
theorem gtCo {o j : Nat} (h : o ≠ 0 ∨ (j ≠ 0 ∧ j ≠ 3)) : gtC me mk sto R o j = R o j := by
  unfold gtC gtB gtA
  simp (disch := omega) only [zu_same, zu_o, z2_s, z2_ne]
theorem gtC0 : gtC me mk sto R 0 0 = R 0 0 + 1 := by
  unfold gtC gtB gtA
  simp (disch := omega) only [zu_same, zu_o, z2_s, z2_ne]
theorem tkCo {j : Nat} (h : j ≠ 0 ∧ j ≠ 3) : tkC pl S j = S j := by
  unfold tkC tkB tkA
  simp (disch := omega) only [zu_same, zu_o, z2_s, z2_ne]
theorem tkC0 : tkC pl S 0 = S 0 + 1 := by
  unfold tkC tkB tkA
  simp (disch := omega) only [zu_same, zu_o, z2_s, z2_ne]
theorem mn_eq {a b : Int32} : (if a < b then a else b) = (if b < a then b else a) := by
  by_cases c : a < b
  · rw [if_pos c, if_neg (fun q => Int32.lt_irrefl (Int32.lt_trans c q))]
  · rw [if_neg c]
    by_cases d : b < a
    · rw [if_pos d]
    · rw [if_neg d, Int32.le_antisymm (Int32.not_lt.mp c) (Int32.not_lt.mp d)]
theorem tkC3 (h3 : S 3 = R 0 3) (e25 : pl 25 = me) (e4 : pl 4 = mk) (e5 : pl 5 = sto) : tkC pl S 3 = gtC me mk sto R 0 3 := by
  unfold tkC tkB tkA gtC gtB gtA
  simp (disch := omega) only [zu_same, zu_o, z2_s, z2_ne, h3, e25, e4, e5]
  exact mn_eq
theorem tc_eq (E : EqR ns m pc n du R S) (hn : n ≤ 80) (hm : m ≤ 80) (hp : pc ≤ 10) (hs : ns ≤ 4) (e25 : pl 25 = me) (e4 : pl 4 = mk) (e5 : pl 5 = sto) : EqR ns m pc n du (gtC me mk sto R) (tkC pl S) := by
  obtain ⟨⟨s0, s1, s2, s3, s4, s7, s5, s9, s8⟩, P, T, L, C, I, V, B⟩ := E
  refine ⟨⟨?_, ?_, ?_, tkC3 s3 e25 e4 e5, ?_, ?_, ?_, ?_, ?_⟩, fun j hj => ?_, fun k hk => ?_, fun k hk => ?_, fun k p hk hp => ?_, fun j hj => ?_, fun j k hj hk => ?_, fun b hb => ?_⟩
  · rw [tkC0, gtC0, s0]
  · rw [tkCo (by omega), gtCo (by omega), s1]
  · rw [tkCo (by omega), gtCo (by omega), s2]
  · rw [tkCo (by omega), gtCo (by omega), s4]
  · rw [tkCo (by omega), gtCo (by omega), s7]
  · rw [tkCo (by omega), gtCo (by omega), s5]
  · rw [tkCo (by omega), gtCo (by omega), s9]
  · rw [tkCo (by omega), gtCo (by omega), s8]
  · rw [tkCo (by omega), gtCo (by omega)]
    exact P j hj
  · rw [tkCo (by omega), gtCo (by omega), tkCo (by omega), gtCo (by omega)]
    exact T k hk
  · rw [tkCo (by omega), gtCo (by omega), tkCo (by omega), gtCo (by omega)]
    exact L k hk
  · rw [tkCo (by omega), gtCo (by omega)]
    exact C k p hk hp
  · rw [tkCo (by omega), gtCo (by omega), tkCo (by omega), gtCo (by omega), tkCo (by omega), gtCo (by omega), tkCo (by omega), gtCo (by omega)]
    exact I j hj
  · rw [tkCo (by omega), gtCo (by omega)]
    exact V j k hj hk
  · rw [tkCo (by omega), gtCo (by omega), tkCo (by omega), gtCo (by omega), tkCo (by omega), gtCo (by omega), tkCo (by omega), gtCo (by omega), tkCo (by omega), tkCo (by omega), gtCo (by omega)]
    exact B b hb
end TI
