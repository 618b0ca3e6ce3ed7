-- ===== quotas and landings: bounds =====
def pQ (q : Ps) : Prop := q.ns ≤ 4 ∧ ∀ k, k < q.ns → ∃ t, t ≤ 999999 ∧ q.dr (14 + k) = Int32.ofNat t
section PQ9
variable {T : Nat → Nat} {n : Nat} {t : Tok}
theorem pQ_gr {b : Ps × Tok} (e : pGr T n t = .inr b) : pQ b.1 := by
  unfold pGr at e
  obtain ⟨a1, -, e⟩ := pB_i e
  obtain ⟨a2, e2, e⟩ := pB_i e
  obtain ⟨a3, e3, e⟩ := pB_i e
  obtain ⟨a4, e4, e⟩ := pB_i e
  obtain ⟨a5, e5, e⟩ := pB_i e
  cases e
  exact ⟨Nat.zero_le _, fun k hk => absurd hk (Nat.not_lt_zero _)⟩
theorem pQ_ic {q : Ps} {b : Ps × Tok} (G : pQ q) (e : pIc T n q t = .inr b) : pQ b.1 := by
  unfold pIc at e
  split at e
  · cases e
  · obtain ⟨a1, -, e⟩ := pB_i e
    obtain ⟨a2, -, e⟩ := pB_i e
    obtain ⟨a3, -, e⟩ := pB_i e
    obtain ⟨a4, e4, e⟩ := pB_i e
    obtain ⟨a5, -, e⟩ := pB_i e
    cases e
    exact G
theorem pQ_st {q : Ps} {b : Ps × Tok} (G : pQ q) (e : pSt T n q t = .inr b) : pQ b.1 := by
  unfold pSt at e
  split at e
  · cases e
  · obtain ⟨a1, -, e⟩ := pB_i e
    obtain ⟨a2, -, e⟩ := pB_i e
    cases e
    exact G
theorem pQ_sp {q : Ps} {b : Ps × Tok} (G : pQ q) (e : pSp T n q t = .inr b) : pQ b.1 := by
  unfold pSp at e
  split at e
  · cases e
  · split at e
    · split at e
      · cases e
      · obtain ⟨a1, e1, e⟩ := pB_i e
        obtain ⟨a2, e2, e⟩ := pB_i e
        obtain ⟨a3, e3, e⟩ := pB_i e
        obtain ⟨a4, e4, e⟩ := pB_i e
        have b2 := pNm_b e2
        cases e
        obtain ⟨g0, g1⟩ := G
        have hs : q.ns < 4 := by omega
        refine ⟨hs, fun k hk => ?_⟩
        have hk : k < q.ns + 1 := hk
        show ∃ t, t ≤ 999999 ∧ zu (zu q.dr (10 + q.ns) (Int32.ofNat a1.1)) (14 + q.ns) (Int32.ofNat a2.1) (14 + k) = Int32.ofNat t
        by_cases c : k = q.ns
        · rw [c, zu_same]
          exact ⟨a2.1, b2.2, rfl⟩
        · rw [zu_o (by omega), zu_o (by omega)]
          exact g1 k (by omega)
    · cases e
theorem pQ_it {q : Ps} {b : Ps × Tok} (G : pQ q) (e : pIt T n q t = .inr b) : pQ b.1 := by
  unfold pIt at e
  split at e
  · cases e
  · obtain ⟨a1, e1, e⟩ := pB_i e
    obtain ⟨a2, e2, e⟩ := pB_i e
    obtain ⟨a3, e3, e⟩ := pB_i e
    cases e
    obtain ⟨g0, g1⟩ := G
    refine ⟨g0, fun k hk => ?_⟩
    have hk : k < q.ns := hk
    show ∃ t, t ≤ 999999 ∧ itF q.dr q.ni (wfF (Int32.ofNat a2.1.1) (Int32.ofNat a2.1.2) (q.pl 0)) a3.1.1 a3.1.2 (14 + k) = Int32.ofNat t
    unfold itF
    rw [if_neg (by omega), if_neg (by omega), if_neg (by omega), if_neg (by omega)]
    exact g1 k hk
theorem pQ_ls : ∀ (k : Nat) (a b : Ps × Tok), pQ a.1 → pLs T n k a = .inr b → pQ b.1 := by
  intro k
  induction k with
  | zero =>
    intro a b G e
    cases e
    exact G
  | succ k ih =>
    intro a b G e
    have e : (if a.2.2.2.1 = 4 then pB (pLn T n a.1 (tok T n a.2.2.1)) (pLs T n k) else .inr a : PE (Ps × Tok)) = .inr b := e
    split at e
    · obtain ⟨c, e1, e2⟩ := pB_i e
      refine ih c b ?_ e2
      unfold pLn at e1
      split at e1
      · exact pQ_ic G e1
      · split at e1
        · exact pQ_st G e1
        · split at e1
          · exact pQ_sp G e1
          · split at e1
            · exact pQ_it G e1
            · cases e1
    · cases e
      exact G
theorem pQ_tx {q : Ps} (e : pTx T n = .inr q) : pQ q := by
  unfold pTx at e
  obtain ⟨a, e1, e⟩ := pB_i e
  obtain ⟨b, e2, e⟩ := pB_i e
  have G := pQ_ls 1500 a b (pQ_gr e1) e2
  have e3 := pEn_n e
  rw [e3]
  exact G
end PQ9
/-- quotas and landings of a row -/
def QL (B ns : Nat) (S : Nat → Int32) : Prop := ∀ k, k < ns → ∃ q l, S (14 + k) = Int32.ofNat q ∧ S (18 + k) = Int32.ofNat l ∧ l ≤ q ∧ q ≤ B
def QR (B ns : Nat) (R : Nat → Nat → Int32) : Prop := ∀ k, k < ns → ∃ q l, R 3 k = Int32.ofNat q ∧ R 4 k = Int32.ofNat l ∧ l ≤ q ∧ q ≤ B
theorem ql_up {B B' ns : Nat} {S : Nat → Int32} (h : B ≤ B') (A : QL B ns S) : QL B' ns S := fun k hk => by
  obtain ⟨q, l, a1, a2, a3, a4⟩ := A k hk
  exact ⟨q, l, a1, a2, a3, by omega⟩
theorem ql_r {B ns m pc n : Nat} {du : Int32} {R : Nat → Nat → Int32} {S : Nat → Int32} (h4 : ns ≤ 4) (E : EqR ns m pc n du R S) : QL B ns S ↔ QR B ns R := by
  refine ⟨fun A k hk => ?_, fun A k hk => ?_⟩
  · obtain ⟨q, l, a1, a2, a3, a4⟩ := A k hk
    exact ⟨q, l, (E.2.2.1 k hk).2.symm.trans a1, (E.2.2.2.1 k (by omega)).1.symm.trans a2, a3, a4⟩
  · obtain ⟨q, l, a1, a2, a3, a4⟩ := A k hk
    exact ⟨q, l, (E.2.2.1 k hk).2.trans a1, (E.2.2.2.1 k (by omega)).1.trans a2, a3, a4⟩
theorem ql_of {B ns : Nat} {S S' : Nat → Int32} (h4 : ns ≤ 4) (h : ∀ a, a < 1168 → S' a = S a) (A : QL B ns S) : QL B ns S' := fun k hk => by
  rw [h _ (by omega), h _ (by omega)]
  exact A k hk
