-- ===== what-ifs: the best move =====
section BM
variable {ns n : Nat} {R : Nat → Nat → Int32} {S : Nat → Int32} {du : Int32} {pc pm : Nat → Int32}
theorem i64_n {a : Nat} (h : a < 2147483648) : (Int64.ofNat a).toInt = (a : Int) := Int64.toInt_ofNat_of_lt (by omega)
theorem ea_go (hns : ns ≤ 4) (H : ∀ k, k < ns → erF du (pc k) R k n = emF (pm k) S k n ∧ ∃ e, e ≤ 237600000 ∧ erF du (pc k) R k n = Int32.ofNat e) : ∀ (d i x : Nat), i + d ≤ ns → x ≤ 237600000 * i → ∃ y, y ≤ 237600000 * (i + d) ∧ fl (eaS du pc R n) d i (Int32.ofNat x) = Int32.ofNat y ∧ fl (eaM pm S n) d i (Int64.ofNat x) = Int64.ofNat y := by
  intro d
  induction d with
  | zero => intro i x _ hx; exact ⟨x, hx, rfl, rfl⟩
  | succ d ih =>
    intro i x hi hx
    obtain ⟨e1, e, e2, e3⟩ := H i (by omega)
    have s1 : eaS du pc R n i (Int32.ofNat x) = Int32.ofNat (x + e) := by
      unfold eaS
      rw [e3, i32_add]
    have s2 : eaM pm S n i (Int64.ofNat x) = Int64.ofNat (x + e) := by
      unfold eaM
      rw [← e1, e3, i64_of (by omega)]
      exact (Int64.ofNat_add x e).symm
    show ∃ y, y ≤ 237600000 * (i + (d + 1)) ∧ fl (eaS du pc R n) d (i + 1) (eaS du pc R n i (Int32.ofNat x)) = Int32.ofNat y ∧ fl (eaM pm S n) d (i + 1) (eaM pm S n i (Int64.ofNat x)) = Int64.ofNat y
    rw [s1, s2]
    obtain ⟨y, y1, y2⟩ := ih (i + 1) (x + e) (by omega) (by omega)
    exact ⟨y, by omega, y2⟩
theorem ea_eq (hns : ns ≤ 4) (H : ∀ k, k < ns → erF du (pc k) R k n = emF (pm k) S k n ∧ ∃ e, e ≤ 237600000 ∧ erF du (pc k) R k n = Int32.ofNat e) : ∃ y, y ≤ 950400000 ∧ fl (eaS du pc R n) ns 0 0 = Int32.ofNat y ∧ fl (eaM pm S n) ns 0 0 = Int64.ofNat y := by
  obtain ⟨y, y1, y2, y3⟩ := ea_go hns H ns 0 0 (by omega) (by omega)
  exact ⟨y, by omega, y2, y3⟩
def Rl5 (a : Int32 × Int32) (b : Int64 × Int32) : Prop := ∃ y, y ≤ 950400000 ∧ a.1 = Int32.ofNat y ∧ b.1 = Int64.ofNat y ∧ a.2 = b.2
variable {ok ok' : Nat → Nat → Bool} {g : Nat → Nat → Int32} {g' : Nat → Nat → Int64}
theorem mv_s (H : ∀ f t, f < ns → t < ns → ok f t = ok' f t ∧ (ok f t = true → ∃ y, y ≤ 950400000 ∧ g f t = Int32.ofNat y ∧ g' f t = Int64.ofNat y)) (hns : ns ≤ 4) {f t : Nat} (hf : f < ns) (ht : t < ns) {a : Int32 × Int32} {b : Int64 × Int32} (r : Rl5 a b) : Rl5 (bvS ok g f t a) (mvS ns ok' g' (4 * f + t) b) := by
  obtain ⟨h1, h2⟩ := H f t hf ht
  obtain ⟨y, y1, y2, y3, y4⟩ := r
  unfold bvS mvS
  rw [show (4 * f + t) / 4 = f by omega, show (4 * f + t) % 4 = t by omega, ← h1]
  by_cases c : ok f t = true
  · obtain ⟨z, z1, z2, z3⟩ := h2 c
    rw [if_pos c, if_pos (show (f < ns ∧ t < ns) ∧ ok f t = true from ⟨⟨hf, ht⟩, c⟩), z2, z3, y2, y3]
    by_cases q : z ≤ y
    · rw [if_pos (by rw [Int32.le_iff_toInt_le, i32_toInt (by omega), i32_toInt (by omega)]; omega), if_neg (fun w => by
        have := cmp_p.mp w
        rw [Int64.lt_iff_toInt_lt, i64_n (by omega), i64_n (by omega)] at this
        omega)]
      exact ⟨y, y1, y2, y3, y4⟩
    · rw [if_neg (by rw [Int32.le_iff_toInt_le, i32_toInt (by omega), i32_toInt (by omega)]; omega), if_pos (cmp_p.mpr (by
        rw [Int64.lt_iff_toInt_lt, i64_n (by omega), i64_n (by omega)]
        omega))]
      exact ⟨z, z1, rfl, rfl, rfl⟩
  · rw [if_neg c, if_neg (fun w => c w.2)]
    exact ⟨y, y1, y2, y3, y4⟩
theorem mv_n {k : Nat} (h : ¬ (k / 4 < ns ∧ k % 4 < ns)) {b : Int64 × Int32} : mvS ns ok' g' k b = b := by
  unfold mvS
  rw [if_neg (fun w => h w.1)]
theorem mv_r (H : ∀ f t, f < ns → t < ns → ok f t = ok' f t ∧ (ok f t = true → ∃ y, y ≤ 950400000 ∧ g f t = Int32.ofNat y ∧ g' f t = Int64.ofNat y)) (hns : ns ≤ 4) {f : Nat} (hf : f < ns) : ∀ (d t : Nat) (a : Int32 × Int32) (b : Int64 × Int32), t + d ≤ ns → Rl5 a b → Rl5 (fl (bvS ok g f) d t a) (fl (mvS ns ok' g') d (4 * f + t) b) := by
  intro d
  induction d with
  | zero => intro t a b _ r; exact r
  | succ d ih =>
    intro t a b ht r
    exact ih (t + 1) _ _ (by omega) (mv_s H hns hf (by omega) r)
theorem mv_w (H : ∀ f t, f < ns → t < ns → ok f t = ok' f t ∧ (ok f t = true → ∃ y, y ≤ 950400000 ∧ g f t = Int32.ofNat y ∧ g' f t = Int64.ofNat y)) (hns : ns ≤ 4) : ∀ (d f : Nat) (a : Int32 × Int32) (b : Int64 × Int32), f + d ≤ ns → Rl5 a b → Rl5 (fl (fun f a => fl (bvS ok g f) ns 0 a) d f a) (fl (mvS ns ok' g') (4 * d) (4 * f) b) := by
  intro d
  induction d with
  | zero => intro f a b _ r; exact r
  | succ d ih =>
    intro f a b hf r
    have e : fl (mvS ns ok' g') (4 * (d + 1)) (4 * f) b = fl (mvS ns ok' g') (4 * d) (4 * (f + 1)) (fl (mvS ns ok' g') ns (4 * f) b) := by
      have e1 := fl_add (f := mvS ns ok' g') 4 (4 * d) (4 * f) b
      have e2 := fl_add (f := mvS ns ok' g') ns (4 - ns) (4 * f) b
      rw [show ns + (4 - ns) = 4 by omega, fl_idI (4 - ns) (4 * f + ns) _ (fun j h1 h2 => mv_n (by omega))] at e2
      rw [show 4 * (d + 1) = 4 + 4 * d by omega, e1, e2, show 4 * f + 4 = 4 * (f + 1) by omega]
    rw [e]
    have r1 := mv_r H hns (f := f) (by omega) ns 0 a b (by omega) r
    exact ih (f + 1) _ _ (by omega) r1
theorem mv_eq (H : ∀ f t, f < ns → t < ns → ok f t = ok' f t ∧ (ok f t = true → ∃ y, y ≤ 950400000 ∧ g f t = Int32.ofNat y ∧ g' f t = Int64.ofNat y)) (hns : ns ≤ 4) {g0 : Int32} {g1 : Int64} (h0 : ∃ y, y ≤ 950400000 ∧ g0 = Int32.ofNat y ∧ g1 = Int64.ofNat y) : (fl (fun f a => fl (bvS ok g f) ns 0 a) ns 0 (g0, -1)).2 = (fl (mvS ns ok' g') 16 0 (g1, -1)).2 := by
  obtain ⟨y, y1, y2, y3⟩ := h0
  obtain ⟨z, -, -, -, z4⟩ := mv_w H hns ns 0 (g0, -1) (g1, -1) (by omega) ⟨y, y1, y2, y3, rfl⟩
  have e := fl_add (f := mvS ns ok' g') (4 * ns) (4 * (4 - ns)) 0 (g1, -1)
  rw [show 4 * ns + 4 * (4 - ns) = 16 by omega, fl_idI (4 * (4 - ns)) (0 + 4 * ns) _ (fun j h1 h2 => mv_n (by omega))] at e
  rw [e]
  exact z4
end BM
