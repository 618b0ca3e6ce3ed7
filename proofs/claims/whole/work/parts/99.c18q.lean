-- ===== quotas and landings are kept =====
section QK
variable {B B' ns m tm st du n : Nat} {R R' D : Nat → Nat → Int32} {S pl : Nat → Int32}
theorem qr_of (h : B ≤ B') (h3 : ∀ k, R' 3 k = R 3 k) (h4 : ∀ k, R' 4 k = R 4 k) (A : QR B ns R) : QR B' ns R' := fun k hk => by
  obtain ⟨q, l, a1, a2, a3, a4⟩ := A k hk
  exact ⟨q, l, (h3 k).trans a1, (h4 k).trans a2, a3, by omega⟩
theorem gcl_34 {k p a b o j : Nat} (ho : o = 3 ∨ o = 4) : gclA R k p a b o j = R o j := by
  unfold gclA
  rw [z2_ne (by omega), gm_keep (by omega) (by omega)]
  unfold gbA
  rw [z2_ne (by omega), z2_ne (by omega), z2_ne (by omega), z2_ne (by omega), z2_ne (by omega), z2_ne (by omega)]
theorem gpA_34 {k p i o j : Nat} (ho : o = 3 ∨ o = 4) : gpA R k p i o j = R o j := gpA_o (by omega) (by omega) (by omega)
theorem tpF_34 {ix pc o j : Nat} (ho : o = 3 ∨ o = 4) : tpF R ix pc o j = R o j := tpF_o (by omega) (by omega)
def W8 (R : Nat → Nat → Int32) : Prop := ∀ j, j < cN (R 7 0) → ∃ w, w ≤ 60000 ∧ R 8 j = Int32.ofNat w
theorem w8_of (Z : RS ns du m tm R S) : W8 R := by
  obtain ⟨i, pc, n, q, E, V, J⟩ := Z
  have N := V.1.2
  intro j hj
  rw [V.1.1.2.2.1, cN_of (by omega)] at hj
  exact (V.2.2.2.1 j hj).1
theorem hn_ql (hB : B < 1000000000) (W : W8 R) (A : QR B ns R) : QR B ns (hnC D R) := by
  have gL : ∀ k, cN (R 7 1) < cN (R 7 0) → R 4 k + R 8 (cN (R 7 1)) ≤ R 3 k → QR B ns (ghL R k (cN (R 7 1))) := fun k hi hc k' hk' => by
    obtain ⟨q', l', a1, a2, a3, a4⟩ := A k' hk'
    obtain ⟨w, w1, w2⟩ := W _ hi
    unfold ghL ghA
    by_cases e : k' = k
    · subst e
      refine ⟨q', l' + w, by rw [z2_ne (by omega), z2_ne (by omega)]; exact a1, by rw [z2_s, a2, w2, i32_add], ?_, a4⟩
      rw [a1, a2, w2, i32_add, Int32.le_iff_toInt_le, i32_toInt (by omega), i32_toInt (by omega)] at hc
      omega
    · exact ⟨q', l', by rw [z2_ne (by omega), z2_ne (by omega)]; exact a1, by rw [z2_ne (by omega), z2_ne (by omega)]; exact a2, a3, a4⟩
  unfold hnC
  split
  · rename_i hi
    split
    · exact qr_of (Nat.le_refl _) (fun k => by unfold ghA; rw [z2_ne (by omega), z2_ne (by omega)]) (fun k => by unfold ghA; rw [z2_ne (by omega), z2_ne (by omega)]) A
    · split
      · rename_i hc
        have G := gL _ hi hc
        split
        · exact qr_of (Nat.le_refl _) (fun k => by unfold gpoA; rw [z2_ne (by omega), z2_ne (by omega), z2_ne (by omega)]) (fun k => by unfold gpoA; rw [z2_ne (by omega), z2_ne (by omega), z2_ne (by omega)]) G
        · split
          · exact qr_of (Nat.le_refl _) (fun k => gpA_34 (Or.inl rfl)) (fun k => gpA_34 (Or.inr rfl)) G
          · exact qr_of (Nat.le_refl _) (fun k => (gcl_34 (Or.inl rfl)).trans (gpA_34 (Or.inl rfl))) (fun k => (gcl_34 (Or.inr rfl)).trans (gpA_34 (Or.inr rfl))) G
      · exact qr_of (Nat.le_refl _) (fun k => by unfold ghA; rw [z2_ne (by omega), z2_ne (by omega), z2_ne (by omega)]) (fun k => by unfold ghA; rw [z2_ne (by omega), z2_ne (by omega), z2_ne (by omega)]) A
  · exact A
theorem gtI_o {me mk sto per : Int32} {a b o j : Nat} (h : o ≠ 0 ∧ o ≠ 18 ∧ o ≠ 13) : gtI me mk sto per R a b o j = R o j := by
  unfold gtI
  rw [gc_keep ⟨h.1, h.2.1, Or.inl h.2.2⟩]
  exact gtCo (Or.inl h.1)
theorem gtI_34 {me mk sto per : Int32} {a b o j : Nat} (ho : o = 3 ∨ o = 4) : gtI me mk sto per R a b o j = R o j := by
  unfold gtI
  rw [gc_keep ⟨by omega, by omega, Or.inl (by omega)⟩]
  exact gtCo (Or.inl (by omega))
theorem ti_ql (hB : B < 1000000000) (Q : PlR ns st du D pl) (Z : RS ns du m tm R S) (ht : tm < 1000000) (A : QR B ns R) : QR B ns (tiC D R) := by
  have A1 : QR B ns (gtI (D 0 7) (D 0 4) (D 0 5) (D 0 3) R (cN (R 13 0)) (cN (R 13 1))) := qr_of (Nat.le_refl _) (fun k => gtI_34 (Or.inl rfl)) (fun k => gtI_34 (Or.inr rfl)) A
  unfold tiC
  split
  · exact A1
  · refine hn_ql hB (fun j hj => ?_) A1
    rw [gtI_o ⟨by decide, by decide, by decide⟩] at hj
    rw [gtI_o ⟨by decide, by decide, by decide⟩]
    exact w8_of Z j hj
theorem it_ql (hB : B < 1000000000) (Q : PlR ns st du D pl) : ∀ (d tm : Nat) (R : Nat → Nat → Int32) (S : Nat → Int32), RS ns du m tm R S → tm + d ≤ 1000000 → QR B ns R → QR B ns (it2 (tiC D) d R) := by
  intro d
  induction d with
  | zero => intro tm R S _ _ A; exact A
  | succ d ih =>
    intro tm R S Z ht A
    obtain ⟨Z', -⟩ := ti_ok Q Z (by omega)
    exact ih (tm + 1) _ _ Z' (by omega) (ti_ql hB Q Z (by omega) A)
theorem sh_ql {f t x : Nat} (hB : B < 1000000000) (hx : x ≤ 999999) (hf : f < ns) (ht : t < ns) (hc : cmB R f t (Int32.ofNat x) = true) (A : QR B ns R) : QR (B + 1000000) ns (shQ R f t (Int32.ofNat x)) := by
  obtain ⟨hn, h1, h2⟩ := of_decide_eq_true hc
  obtain ⟨qf, lf, a1, a2, a3, a4⟩ := A f hf
  obtain ⟨qt, lt, b1, b2, b3, b4⟩ := A t ht
  rw [a1, Int32.le_iff_toInt_le, i32_toInt (by omega), i32_toInt (by omega)] at h1
  have e1 : R 3 f - Int32.ofNat x = Int32.ofNat (qf - x) := by rw [a1, i32_sub (by omega)]
  rw [e1, a2, Int32.le_iff_toInt_le, i32_toInt (by omega), i32_toInt (by omega)] at h2
  intro k hk
  obtain ⟨qk, lk, c1, c2, c3, c4⟩ := A k hk
  unfold shQ
  rw [e1]
  by_cases et : k = t
  · subst et
    refine ⟨qt + x, lt, ?_, by rw [z2_ne (by omega), z2_ne (by omega)]; exact b2, by omega, by omega⟩
    rw [z2_s, z2_ne (by omega), b1, i32_add]
  · by_cases ef : k = f
    · subst ef
      refine ⟨qf - x, lf, ?_, by rw [z2_ne (by omega), z2_ne (by omega)]; exact a2, by omega, by omega⟩
      rw [z2_ne (by omega), z2_s]
    · exact ⟨qk, lk, by rw [z2_ne (by omega), z2_ne (by omega)]; exact c1, by rw [z2_ne (by omega), z2_ne (by omega)]; exact c2, c3, by omega⟩
theorem cg_34 {x : Int32} {k p o j : Nat} (ho : o = 3 ∨ o = 4) : ∀ (d : Nat) (a : (Nat → Nat → Int32) × Nat), (cgG x k p d a).1 o j = a.1 o j := by
  intro d
  induction d with
  | zero => intro a; rfl
  | succ d ih =>
    intro a
    show (if bU x d = 0 then cgG x k p d a else cgG x k p d (cgS k p a.1 d a.2, a.2 - 1)).1 o j = a.1 o j
    split
    · exact ih a
    · rw [ih]
      unfold cgS
      exact (gpA_34 ho).trans (tpF_34 ho)
end QK
