-- ===== what-ifs: tools =====
section WI
variable {ns m tm st du n : Nat} {R R' D : Nat → Nat → Int32} {S pl : Nat → Int32}
theorem rg1_n {i x : Int32} {n : Nat} (hn : n < 1000000) (h : i < 1 ∨ ¬ i ≤ x) (ex : x = Int32.ofNat n := by rfl) : inF i 1 x = 0 := by
  unfold inF
  by_cases c : i < 1
  · rw [if_pos c]
  · rw [if_neg c]
    have hi : ¬ i ≤ x := by
      rcases h with z | z
      · exact absurd z c
      · exact z
    rw [if_pos (Int32.not_le.mp hi)]
theorem rg1_y {i x : Int32} {n : Nat} (hn : n < 1000000) (h0 : ¬ i < 1) (h : i ≤ x) (ex : x = Int32.ofNat n := by rfl) : inF i 1 x = 1 ∧ ∃ k, 1 ≤ k ∧ k ≤ n ∧ i = Int32.ofNat k := by
  have h1 := h
  rw [ex, Int32.le_iff_toInt_le, i32_toInt (by omega)] at h1
  have h2 := Int32.not_lt.mp h0
  rw [Int32.le_iff_toInt_le] at h2
  have z1 : (1 : Int32).toInt = 1 := by decide
  refine ⟨?_, i.toInt.toNat, by omega, by omega, ?_⟩
  · unfold inF
    rw [if_neg h0, if_neg]
    exact Int32.not_lt.mpr h
  · apply Int32.toInt_inj.mp
    rw [i32_toInt (by omega)]
    omega
/-- boxes only come on top -/
def BxL (n : Nat) (R R' : Nat → Nat → Int32) : Prop := ∃ n', (n ≤ n' ∧ n' ≤ 1000000) ∧ R' 13 0 = Int32.ofNat n' ∧ ∀ b, b < n → R' 14 b = R 14 b
theorem gm_keep {k p x : Int32} {o j : Nat} (h1 : o ≠ 10) (h2 : o ≠ 11) : ∀ (d i : Nat) (R : Nat → Nat → Int32), fl (gmStep k p x) d i R o j = R o j := by
  intro d
  induction d with
  | zero => intro i R; rfl
  | succ d ih =>
    intro i R
    exact (ih (i + 1) _).trans (gmStep_c h1 h2)
theorem gc_keep {per : Int32} {o j : Nat} (h : o ≠ 0 ∧ o ≠ 18 ∧ (o ≠ 13 ∨ j = 0)) : ∀ (d q : Nat) (R : Nat → Nat → Int32), gcGo per d q R o j = R o j := by
  intro d
  induction d with
  | zero => intro q R; rfl
  | succ d ih =>
    intro q R
    show (if _ then gcGo per d (q + 1) (gcD R q per) else R) o j = R o j
    split
    · rw [ih]
      unfold gcD gcC gcB gcA
      simp (disch := omega) only [zu_same, zu_o, z2_s, z2_ne]
    · rfl
theorem hn_bx (h13 : R 13 0 = Int32.ofNat n) (hn : n < 1000000) : BxL n R (hnC D R) := by
  have cn : cN (R 13 0) = n := by rw [h13]; exact cN_of (by omega)
  have sm : ∀ R', R' 13 0 = R 13 0 → (∀ b, R' 14 b = R 14 b) → BxL n R R' := fun R' a b => ⟨n, ⟨Nat.le_refl _, by omega⟩, a.trans h13, fun x _ => b x⟩
  unfold hnC
  split
  · split
    · refine sm _ ?_ (fun b => ?_) <;> unfold ghA <;> simp (disch := omega) only [zu_same, zu_o, z2_s, z2_ne]
    · split
      · split
        · refine sm _ ?_ (fun b => ?_) <;> unfold gpoA ghL ghA <;> simp (disch := omega) only [zu_same, zu_o, z2_s, z2_ne]
        · split
          · refine sm _ ?_ (fun b => ?_) <;> unfold gpA ghL ghA <;> simp (disch := omega) only [zu_same, zu_o, z2_s, z2_ne]
          · refine ⟨n + 1, ⟨Nat.le_succ n, by omega⟩, ?_, fun b hb => ?_⟩
            · unfold gclA
              rw [z2_ne (by omega), gm_keep (by decide) (by decide), cn]
              unfold gbA
              exact z2_s
            · unfold gclA
              rw [z2_ne (by omega), gm_keep (by decide) (by decide), cn]
              unfold gbA gpA ghL ghA
              simp (disch := omega) only [zu_same, zu_o, z2_s, z2_ne]
      · refine sm _ ?_ (fun b => ?_) <;> unfold ghA <;> simp (disch := omega) only [zu_same, zu_o, z2_s, z2_ne]
  · exact sm _ rfl (fun _ => rfl)
theorem gtI_bx {me mk sto per : Int32} {a b : Nat} : gtI me mk sto per R a b 13 0 = R 13 0 ∧ ∀ x, gtI me mk sto per R a b 14 x = R 14 x := by
  unfold gtI
  refine ⟨?_, fun x => ?_⟩
  · rw [gc_keep ⟨by decide, by decide, Or.inr rfl⟩]
    exact gtCo (Or.inl (by decide))
  · rw [gc_keep ⟨by decide, by decide, Or.inl (by decide)⟩]
    exact gtCo (Or.inl (by decide))
theorem ti_bx (h13 : R 13 0 = Int32.ofNat n) (hn : n < 1000000) : BxL n R (tiC D R) := by
  have g := gtI_bx (R := R) (me := D 0 7) (mk := D 0 4) (sto := D 0 5) (per := D 0 3) (a := cN (R 13 0)) (b := cN (R 13 1))
  unfold tiC
  split
  · exact ⟨n, ⟨Nat.le_refl _, by omega⟩, g.1.trans h13, fun b _ => g.2 b⟩
  · obtain ⟨n', a1, a2, a3⟩ := hn_bx (D := D) (g.1.trans h13) hn
    exact ⟨n', a1, a2, fun b hb => (a3 b hb).trans (g.2 b)⟩
theorem rs_n (Z : RS ns du m tm R S) : ∃ n, n ≤ 80 ∧ R 13 0 = Int32.ofNat n := by
  obtain ⟨i, pc, n, q, E, V, J⟩ := Z
  exact ⟨n, by have := V.1.2; omega, V.1.1.2.2.2.2.1⟩
theorem it_bx (Q : PlR ns st du D pl) : ∀ (d tm n : Nat) (R : Nat → Nat → Int32) (S : Nat → Int32), RS ns du m tm R S → tm + d ≤ 1000000 → R 13 0 = Int32.ofNat n → n ≤ 80 → BxL n R (it2 (tiC D) d R) := by
  intro d
  induction d with
  | zero => intro tm n R S Z ht h13 hn; exact ⟨n, ⟨Nat.le_refl _, by omega⟩, h13, fun _ _ => rfl⟩
  | succ d ih =>
    intro tm n R S Z ht h13 hn
    obtain ⟨Z', -⟩ := ti_ok Q Z (by omega)
    obtain ⟨n1, a1, a2, a3⟩ := ti_bx (D := D) h13 (by omega)
    obtain ⟨n2, b1, b2⟩ := rs_n Z'
    have e : n1 = n2 := Classical.byContradiction fun z => i32_ne (by omega) (by omega) z (a2.symm.trans b2)
    subst e
    obtain ⟨n3, c1, c2, c3⟩ := ih (tm + 1) n1 _ _ Z' (by omega) a2 b1
    exact ⟨n3, by omega, c2, fun b hb => (c3 b (by omega)).trans (a3 b hb)⟩
end WI
