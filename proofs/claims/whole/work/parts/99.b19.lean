-- ===== what a text that is read says: bounds =====
section PG9
variable {T : Nat → Nat} {n : Nat} {t : Tok}
theorem pNu_b {lo hi : Nat} {a : Nat × Tok} (e : pNu T n lo hi t = .inr a) : lo ≤ a.1 ∧ a.1 ≤ hi := by
  unfold pNu at e
  split at e
  · rename_i c
    cases e
    unfold nuE at c
    split at c
    · split at c
      · cases c
      · show lo ≤ t.2.2.2 ∧ t.2.2.2 ≤ hi
        omega
    · cases c
  · cases e
theorem pNm_b {i lo hi : Nat} {a : Nat × Tok} (e : pNm T n i lo hi t = .inr a) : lo ≤ a.1 ∧ a.1 ≤ hi := by
  obtain ⟨b, -, e2⟩ := pB_i e
  exact pNu_b e2
/-- an item as it was read -/
def itG (ns : Nat) (dr : Nat → Int32) (i : Nat) : Prop := (∃ w, w ≤ 60000 ∧ dr (208 + i) = Int32.ofNat w) ∧ (∀ k, k < 4 → (∃ s, s ≤ 495 ∧ dr (368 + 4 * i + k) = Int32.ofNat s) ∧ (ns ≤ k → dr (368 + 4 * i + k) = 0)) ∧ ((dr (288 + i) = 0 ∧ ∀ k, k < 4 → dr (368 + 4 * i + k) = 0) ∨ (¬ dr (288 + i) = 0 ∧ ∃ k, k < 4 ∧ 0 < dr (368 + 4 * i + k)))
def pG (q : Ps) : Prop := (q.ns ≤ 4 ∧ q.ni ≤ 60) ∧ (∃ rf, 1 ≤ rf ∧ rf ≤ 9999 ∧ q.pl 0 = Int32.ofNat rf) ∧ (∃ mg, mg ≤ 99 ∧ q.pl 1 = Int32.ofNat mg) ∧ (∃ rm, rm ≤ 10 ∧ q.pl 2 = Int32.ofNat rm) ∧ (∃ du, du ≤ 99 ∧ q.pl 6 = Int32.ofNat du) ∧ (∀ k, k < q.ns → (∃ nb, 1 ≤ nb ∧ nb ≤ 3 ∧ q.pl (8 + k) = Int32.ofNat nb) ∧ (∃ pr, pr ≤ 99 ∧ q.pl (12 + k) = Int32.ofNat pr) ∧ ∃ t, 1 ≤ t ∧ t ≤ 30000 ∧ q.dr (10 + k) = Int32.ofNat t) ∧ (∃ l, l ≤ 9999 ∧ q.dr 2 = Int32.ofNat l) ∧ (∀ j, j ≠ 2 → j ≠ 9 → (j < 10 ∨ 18 ≤ j) → (j < 208 ∨ 688 ≤ j) → q.dr j = 0) ∧ ∀ i, i < q.ni → itG q.ns q.dr i
theorem pG_gr {b : Ps × Tok} (e : pGr T n t = .inr b) : pG b.1 := by
  unfold pGr at e
  obtain ⟨a1, -, e⟩ := pB_i e
  obtain ⟨a2, e2, e⟩ := pB_i e
  obtain ⟨a3, e3, e⟩ := pB_i e
  obtain ⟨a4, e4, e⟩ := pB_i e
  obtain ⟨a5, e5, e⟩ := pB_i e
  have b2 := pNm_b e2
  have b3 := pNm_b e3
  have b4 := pNm_b e4
  have b5 := pNm_b e5
  cases e
  refine ⟨⟨Nat.zero_le _, Nat.zero_le _⟩, ⟨a2.1, b2.1, b2.2, rfl⟩, ⟨a3.1, b3.2, rfl⟩, ⟨a5.1, b5.2, rfl⟩, ⟨0, by decide, rfl⟩, fun k hk => absurd hk (Nat.not_lt_zero _), ⟨a4.1, b4.2, rfl⟩, fun j h2 h9 _ _ => ?_, fun i hi => absurd hi (Nat.not_lt_zero _)⟩
  show zu (fun _ => 0) 2 (Int32.ofNat a4.1) j = 0
  rw [zu_o h2]
theorem pG_pl {q : Ps} {pl : Nat → Int32} {ic : Bool} {st : Nat} (G : pG q) (h : ∀ j, j < 3 ∨ j = 6 ∨ (8 ≤ j ∧ j < 16) → pl j = q.pl j) : pG (pl, q.dr, q.nm, ic, st, q.ns, q.ni) := by
  obtain ⟨g0, g1, g2, g3, g4, g5, g6, g7, g8⟩ := G
  refine ⟨g0, ?_, ?_, ?_, ?_, fun k hk => ?_, g6, g7, g8⟩
  · show ∃ rf, 1 ≤ rf ∧ rf ≤ 9999 ∧ pl 0 = Int32.ofNat rf
    rw [h 0 (by omega)]
    exact g1
  · show ∃ mg, mg ≤ 99 ∧ pl 1 = Int32.ofNat mg
    rw [h 1 (by omega)]
    exact g2
  · show ∃ rm, rm ≤ 10 ∧ pl 2 = Int32.ofNat rm
    rw [h 2 (by omega)]
    exact g3
  · show ∃ du, du ≤ 99 ∧ pl 6 = Int32.ofNat du
    rw [h 6 (by omega)]
    exact g4
  · have hk : k < q.ns := hk
    show (∃ nb, 1 ≤ nb ∧ nb ≤ 3 ∧ pl (8 + k) = Int32.ofNat nb) ∧ (∃ pr, pr ≤ 99 ∧ pl (12 + k) = Int32.ofNat pr) ∧ ∃ t, 1 ≤ t ∧ t ≤ 30000 ∧ q.dr (10 + k) = Int32.ofNat t
    rw [h _ (by omega), h _ (by omega)]
    exact g5 k hk
theorem pG_ic {q : Ps} {b : Ps × Tok} (G : pG q) (e : pIc T n q t = .inr b) : pG b.1 := by
  unfold pIc at e
  split at e
  · cases e
  · obtain ⟨a1, -, e⟩ := pB_i e
    obtain ⟨a2, -, e⟩ := pB_i e
    obtain ⟨a3, -, e⟩ := pB_i e
    obtain ⟨a4, e4, e⟩ := pB_i e
    obtain ⟨a5, -, e⟩ := pB_i e
    have b4 := pNu_b e4
    cases e
    obtain ⟨g0, g1, g2, g3, g4, g5, g6, g7, g8⟩ := G
    have o : ∀ j, j ≠ 3 → j ≠ 4 → j ≠ 5 → j ≠ 6 → j ≠ 25 → zu (zu (zu (zu (zu q.pl 3 (Int32.ofNat a1.1)) 4 (Int32.ofNat a2.1)) 5 (Int32.ofNat a3.1)) 6 (Int32.ofNat a4.1)) 25 (Int32.ofNat a5.1) j = q.pl j := fun j h3 h4 h5 h6 h25 => by
      rw [zu_o h25, zu_o h6, zu_o h5, zu_o h4, zu_o h3]
    have v6 : zu (zu (zu (zu (zu q.pl 3 (Int32.ofNat a1.1)) 4 (Int32.ofNat a2.1)) 5 (Int32.ofNat a3.1)) 6 (Int32.ofNat a4.1)) 25 (Int32.ofNat a5.1) 6 = Int32.ofNat a4.1 := by
      rw [zu_o (by decide), zu_same]
    generalize hp : zu (zu (zu (zu (zu q.pl 3 (Int32.ofNat a1.1)) 4 (Int32.ofNat a2.1)) 5 (Int32.ofNat a3.1)) 6 (Int32.ofNat a4.1)) 25 (Int32.ofNat a5.1) = pl at *
    refine ⟨g0, ?_, ?_, ?_, ⟨a4.1, b4.2, v6⟩, fun k hk => ?_, g6, g7, g8⟩
    · show ∃ rf, 1 ≤ rf ∧ rf ≤ 9999 ∧ pl 0 = Int32.ofNat rf
      rw [o 0 (by decide) (by decide) (by decide) (by decide) (by decide)]
      exact g1
    · show ∃ mg, mg ≤ 99 ∧ pl 1 = Int32.ofNat mg
      rw [o 1 (by decide) (by decide) (by decide) (by decide) (by decide)]
      exact g2
    · show ∃ rm, rm ≤ 10 ∧ pl 2 = Int32.ofNat rm
      rw [o 2 (by decide) (by decide) (by decide) (by decide) (by decide)]
      exact g3
    · have hk : k < q.ns := hk
      have := g0.1
      show (∃ nb, 1 ≤ nb ∧ nb ≤ 3 ∧ pl (8 + k) = Int32.ofNat nb) ∧ (∃ pr, pr ≤ 99 ∧ pl (12 + k) = Int32.ofNat pr) ∧ ∃ t, 1 ≤ t ∧ t ≤ 30000 ∧ q.dr (10 + k) = Int32.ofNat t
      rw [o (8 + k) (by omega) (by omega) (by omega) (by omega) (by omega), o (12 + k) (by omega) (by omega) (by omega) (by omega) (by omega)]
      exact g5 k hk
theorem pG_st {q : Ps} {b : Ps × Tok} (G : pG q) (e : pSt T n q t = .inr b) : pG b.1 := by
  unfold pSt at e
  split at e
  · cases e
  · obtain ⟨a1, -, e⟩ := pB_i e
    obtain ⟨a2, -, e⟩ := pB_i e
    cases e
    refine pG_pl G (fun j hj => ?_)
    rw [zu_o (by omega), zu_o (by omega), zu_o (by omega)]
theorem itG_up {ns ns' i : Nat} {dr dr' : Nat → Int32} (h : ns ≤ ns') (hd : ∀ j, 208 ≤ j → dr' j = dr j) (G : itG ns dr i) : itG ns' dr' i := by
  unfold itG
  obtain ⟨g1, g2, g3⟩ := G
  rw [hd _ (by omega), hd _ (by omega)]
  refine ⟨g1, fun k hk => ?_, ?_⟩
  · rw [hd _ (by omega)]
    exact ⟨(g2 k hk).1, fun z => (g2 k hk).2 (by omega)⟩
  · rcases g3 with ⟨a, b⟩ | ⟨a, k, b, c⟩
    · exact Or.inl ⟨a, fun k hk => by rw [hd _ (by omega)]; exact b k hk⟩
    · exact Or.inr ⟨a, k, b, by rw [hd _ (by omega)]; exact c⟩
theorem pG_sp {q : Ps} {b : Ps × Tok} (G : pG q) (e : pSp T n q t = .inr b) : pG b.1 := by
  unfold pSp at e
  split at e
  · cases e
  · split at e
    · split at e
      · cases e
      · obtain ⟨a1, e1, e⟩ := pB_i e
        obtain ⟨a2, -, e⟩ := pB_i e
        obtain ⟨a3, e3, e⟩ := pB_i e
        obtain ⟨a4, e4, e⟩ := pB_i e
        have b1 := pNm_b e1
        have b3 := pNm_b e3
        have b4 := pNm_b e4
        cases e
        obtain ⟨g0, g1, g2, g3, g4, g5, g6, g7, g8⟩ := G
        have hs : q.ns < 4 := by omega
        have o : ∀ j, j ≠ 7 → j ≠ 8 + q.ns → j ≠ 12 + q.ns → zu (zu (zu q.pl (8 + q.ns) (Int32.ofNat a3.1)) (12 + q.ns) (Int32.ofNat a4.1)) 7 (Int32.ofNat (q.ns + 1)) j = q.pl j := fun j h7 h8 h12 => by
          rw [zu_o h7, zu_o h12, zu_o h8]
        have v8 : zu (zu (zu q.pl (8 + q.ns) (Int32.ofNat a3.1)) (12 + q.ns) (Int32.ofNat a4.1)) 7 (Int32.ofNat (q.ns + 1)) (8 + q.ns) = Int32.ofNat a3.1 := by
          rw [zu_o (by omega), zu_o (by omega), zu_same]
        have v12 : zu (zu (zu q.pl (8 + q.ns) (Int32.ofNat a3.1)) (12 + q.ns) (Int32.ofNat a4.1)) 7 (Int32.ofNat (q.ns + 1)) (12 + q.ns) = Int32.ofNat a4.1 := by
          rw [zu_o (by omega), zu_same]
        have d : ∀ j, j ≠ 10 + q.ns → j ≠ 14 + q.ns → zu (zu q.dr (10 + q.ns) (Int32.ofNat a1.1)) (14 + q.ns) (Int32.ofNat a2.1) j = q.dr j := fun j h10 h14 => by
          rw [zu_o h14, zu_o h10]
        have v10 : zu (zu q.dr (10 + q.ns) (Int32.ofNat a1.1)) (14 + q.ns) (Int32.ofNat a2.1) (10 + q.ns) = Int32.ofNat a1.1 := by
          rw [zu_o (by omega), zu_same]
        generalize zu (zu (zu q.pl (8 + q.ns) (Int32.ofNat a3.1)) (12 + q.ns) (Int32.ofNat a4.1)) 7 (Int32.ofNat (q.ns + 1)) = pl at *
        generalize zu (zu q.dr (10 + q.ns) (Int32.ofNat a1.1)) (14 + q.ns) (Int32.ofNat a2.1) = dr at *
        refine ⟨⟨hs, g0.2⟩, ?_, ?_, ?_, ?_, fun k hk => ?_, ?_, fun j h2 h9 h3 h4 => ?_, fun i hi => itG_up (Nat.le_succ q.ns) (fun j hj => d j (by omega) (by omega)) (g8 i hi)⟩
        · show ∃ rf, 1 ≤ rf ∧ rf ≤ 9999 ∧ pl 0 = Int32.ofNat rf
          rw [o 0 (by omega) (by omega) (by omega)]
          exact g1
        · show ∃ mg, mg ≤ 99 ∧ pl 1 = Int32.ofNat mg
          rw [o 1 (by omega) (by omega) (by omega)]
          exact g2
        · show ∃ rm, rm ≤ 10 ∧ pl 2 = Int32.ofNat rm
          rw [o 2 (by omega) (by omega) (by omega)]
          exact g3
        · show ∃ du, du ≤ 99 ∧ pl 6 = Int32.ofNat du
          rw [o 6 (by omega) (by omega) (by omega)]
          exact g4
        · have hk : k < q.ns + 1 := hk
          show (∃ nb, 1 ≤ nb ∧ nb ≤ 3 ∧ pl (8 + k) = Int32.ofNat nb) ∧ (∃ pr, pr ≤ 99 ∧ pl (12 + k) = Int32.ofNat pr) ∧ ∃ t, 1 ≤ t ∧ t ≤ 30000 ∧ dr (10 + k) = Int32.ofNat t
          by_cases c : k = q.ns
          · rw [c, v8, v12, v10]
            exact ⟨⟨a3.1, b3.1, b3.2, rfl⟩, ⟨a4.1, b4.2, rfl⟩, ⟨a1.1, b1.1, b1.2, rfl⟩⟩
          · rw [o (8 + k) (by omega) (by omega) (by omega), o (12 + k) (by omega) (by omega) (by omega), d (10 + k) (by omega) (by omega)]
            exact g5 k (by omega)
        · show ∃ l, l ≤ 9999 ∧ dr 2 = Int32.ofNat l
          rw [d 2 (by omega) (by omega)]
          exact g6
        · show dr j = 0
          rw [d j (by omega) (by omega)]
          exact g7 j h2 h9 h3 h4
    · cases e
theorem pSl_b : ∀ (k : Nat) (a b : (Nat × Nat) × Tok), k ≤ 2 → a.1.1 ≤ 20000 * (3 - k) → 1 ≤ a.1.2 → a.1.2 ≤ 9999 * (3 - k) → pSl T n k a = .inr b → b.1.1 ≤ 60000 ∧ 1 ≤ b.1.2 ∧ b.1.2 ≤ 29997 := by
  intro k
  induction k with
  | zero =>
    intro a b _ h1 h2 h3 e
    have e : (if isK T a.2 13 = true then .inl (5, a.2.1) else .inr a : PE ((Nat × Nat) × Tok)) = .inr b := e
    split at e
    · cases e
    · cases e
      omega
  | succ k ih =>
    intro a b hk h1 h2 h3 e
    have e : (if isK T a.2 13 = true then pB (pSm T n a.1 (tok T n a.2.2.1)) (pSl T n k) else .inr a : PE ((Nat × Nat) × Tok)) = .inr b := e
    split at e
    · obtain ⟨c, e1, e2⟩ := pB_i e
      unfold pSm at e1
      obtain ⟨x1, f1, e1⟩ := pB_i e1
      obtain ⟨x2, f2, e1⟩ := pB_i e1
      have g1 := pNu_b f1
      have g2 := pNu_b f2
      cases e1
      exact ih _ b (by omega) (by show a.1.1 + x1.1 ≤ _; omega) (by show 1 ≤ a.1.2 + x2.1; omega) (by show a.1.2 + x2.1 ≤ _; omega) e2
    · cases e
      omega
/-- votes so far -/
def vtG (ns v : Nat) (f : Nat → Int32) : Prop := v ≤ 5 ∧ (∀ k, k < 4 → (∃ s, s ≤ 99 * v ∧ f k = Int32.ofNat s) ∧ (ns ≤ k → f k = 0)) ∧ ((v = 0 ∧ ∀ k, k < 4 → f k = 0) ∨ (0 < v ∧ ∃ k s, k < 4 ∧ 1 ≤ s ∧ s ≤ 99 * v ∧ f k = Int32.ofNat s))
theorem pVl_b {nm : Nat → Nat × (Nat → Nat)} {ns : Nat} (hs : ns ≤ 4) : ∀ (k : Nat) (a b : (Nat × (Nat → Int32)) × Tok), a.1.1 + k ≤ 5 → vtG ns a.1.1 a.1.2 → pVl T n nm ns k a = .inr b → vtG ns b.1.1 b.1.2 := by
  intro k
  induction k with
  | zero =>
    intro a b _ V e
    have e : (if isK T a.2 14 = true then .inl (5, a.2.1) else .inr a : PE ((Nat × (Nat → Int32)) × Tok)) = .inr b := e
    split at e
    · cases e
    · cases e
      exact V
  | succ k ih =>
    intro a b h5 V e
    have e : (if isK T a.2 14 = true then pB (pVo T n nm ns a.1.2 (tok T n a.2.2.1)) (fun b => pVl T n nm ns k ((a.1.1 + 1, b.1), b.2)) else .inr a : PE ((Nat × (Nat → Int32)) × Tok)) = .inr b := e
    split at e
    · obtain ⟨c, e1, e2⟩ := pB_i e
      refine ih _ b (by show a.1.1 + 1 + k ≤ 5; omega) ?_ e2
      unfold pVo at e1
      split at e1
      · split at e1
        · rename_i k3 ck
          obtain ⟨x, f1, e1⟩ := pB_i e1
          have g1 := pNu_b f1
          have lk : k3 < ns := by
            unfold pKi at ck
            have := fnd_lt _ _ _ ck
            omega
          cases e1
          obtain ⟨v1, v2, v3⟩ := V
          obtain ⟨⟨s, s1, s2⟩, -⟩ := v2 k3 (by omega)
          have ev : zu a.1.2 k3 (a.1.2 k3 + Int32.ofNat x.1) k3 = Int32.ofNat (s + x.1) := by rw [zu_same, s2, i32_add]
          refine ⟨by show a.1.1 + 1 ≤ 5; omega, fun k' hk' => ?_, Or.inr ⟨by show 0 < a.1.1 + 1; omega, k3, s + x.1, by omega, by omega, by show s + x.1 ≤ 99 * (a.1.1 + 1); omega, ev⟩⟩
          show (∃ s, s ≤ 99 * (a.1.1 + 1) ∧ zu a.1.2 k3 (a.1.2 k3 + Int32.ofNat x.1) k' = Int32.ofNat s) ∧ (ns ≤ k' → zu a.1.2 k3 (a.1.2 k3 + Int32.ofNat x.1) k' = 0)
          by_cases c : k' = k3
          · rw [c, ev]
            exact ⟨⟨_, by omega, rfl⟩, fun z => by omega⟩
          · rw [zu_o c]
            obtain ⟨⟨y, y1, y2⟩, y3⟩ := v2 k' hk'
            exact ⟨⟨y, by omega, y2⟩, y3⟩
        · cases e1
      · cases e1
    · cases e
      exact V
theorem pG_it {q : Ps} {b : Ps × Tok} (G : pG q) (e : pIt T n q t = .inr b) : pG b.1 := by
  unfold pIt at e
  split at e
  · cases e
  · obtain ⟨a1, e1, e⟩ := pB_i e
    obtain ⟨a2, e2, e⟩ := pB_i e
    obtain ⟨a3, e3, e⟩ := pB_i e
    cases e
    obtain ⟨g0, g1, g2, g3, g4, g5, g6, g7, g8⟩ := G
    unfold pSm at e1
    obtain ⟨x1, f1, e1⟩ := pB_i e1
    obtain ⟨x2, f2, e1⟩ := pB_i e1
    have h1 := pNu_b f1
    have h2 := pNu_b f2
    cases e1
    obtain ⟨s1, s2, s3⟩ := pSl_b 2 _ a2 (Nat.le_refl _) (by show 0 + x1.1 ≤ 20000 * (3 - 2); omega) (by show 1 ≤ 0 + x2.1; omega) (by show 0 + x2.1 ≤ 9999 * (3 - 2); omega) e2
    have V := pVl_b g0.1 5 _ a3 (by show 0 + 5 ≤ 5; decide) ⟨Nat.zero_le _, fun k hk => ⟨⟨0, Nat.zero_le _, rfl⟩, fun _ => rfl⟩, Or.inl ⟨rfl, fun _ _ => rfl⟩⟩ e3
    obtain ⟨rf, rf1, rf2, rf3⟩ := g1
    obtain ⟨w, w1, w2⟩ := wf_nat (x := a2.1.1) (y := a2.1.2) (r := rf) s1 s2 s3 rf2
    rw [← rf3] at w2
    have hi : q.ni < 60 := by omega
    have io : ∀ j, j ≠ 9 → j ≠ 208 + q.ni → j ≠ 288 + q.ni → (j < 368 + 4 * q.ni ∨ 372 + 4 * q.ni ≤ j) → itF q.dr q.ni (wfF (Int32.ofNat a2.1.1) (Int32.ofNat a2.1.2) (q.pl 0)) a3.1.1 a3.1.2 j = q.dr j := fun j h9 h1 h2 h3 => by
      unfold itF
      rw [if_neg h9, if_neg h1, if_neg h2, if_neg (by omega)]
    have iw : itF q.dr q.ni (wfF (Int32.ofNat a2.1.1) (Int32.ofNat a2.1.2) (q.pl 0)) a3.1.1 a3.1.2 (208 + q.ni) = Int32.ofNat w := by
      unfold itF
      rw [if_neg (by omega), if_pos rfl, w2]
    have ic : itF q.dr q.ni (wfF (Int32.ofNat a2.1.1) (Int32.ofNat a2.1.2) (q.pl 0)) a3.1.1 a3.1.2 (288 + q.ni) = Int32.ofNat a3.1.1 := by
      unfold itF
      rw [if_neg (by omega), if_neg (by omega), if_pos rfl]
    have iv : ∀ k, k < 4 → itF q.dr q.ni (wfF (Int32.ofNat a2.1.1) (Int32.ofNat a2.1.2) (q.pl 0)) a3.1.1 a3.1.2 (368 + 4 * q.ni + k) = a3.1.2 k := fun k hk => by
      unfold itF
      rw [if_neg (by omega), if_neg (by omega), if_neg (by omega), if_pos (by omega), show 368 + 4 * q.ni + k - (368 + 4 * q.ni) = k by omega]
    generalize itF q.dr q.ni (wfF (Int32.ofNat a2.1.1) (Int32.ofNat a2.1.2) (q.pl 0)) a3.1.1 a3.1.2 = dr at *
    refine ⟨⟨g0.1, hi⟩, ⟨rf, rf1, rf2, rf3⟩, g2, g3, g4, fun k hk => ?_, ?_, fun j h2 h9 h3 h4 => ?_, fun i hi' => ?_⟩
    · have hk : k < q.ns := hk
      have := g0.1
      show (∃ nb, 1 ≤ nb ∧ nb ≤ 3 ∧ q.pl (8 + k) = Int32.ofNat nb) ∧ (∃ pr, pr ≤ 99 ∧ q.pl (12 + k) = Int32.ofNat pr) ∧ ∃ t, 1 ≤ t ∧ t ≤ 30000 ∧ dr (10 + k) = Int32.ofNat t
      rw [io (10 + k) (by omega) (by omega) (by omega) (by omega)]
      exact g5 k hk
    · show ∃ l, l ≤ 9999 ∧ dr 2 = Int32.ofNat l
      rw [io 2 (by omega) (by omega) (by omega) (by omega)]
      exact g6
    · show dr j = 0
      rw [io j h9 (by omega) (by omega) (by omega)]
      exact g7 j h2 h9 h3 h4
    · have hi' : i < q.ni + 1 := hi'
      show itG q.ns dr i
      unfold itG
      by_cases c : i = q.ni
      · rw [c, iw, ic]
        obtain ⟨v1, v2, v3⟩ := V
        refine ⟨⟨w, w1, rfl⟩, fun k hk => ?_, ?_⟩
        · rw [iv k hk]
          obtain ⟨⟨s, z1, z2⟩, z3⟩ := v2 k hk
          exact ⟨⟨s, by omega, z2⟩, z3⟩
        · rcases v3 with ⟨z1, z2⟩ | ⟨z1, k, s, z2, z3, z4, z5⟩
          · refine Or.inl ⟨by rw [z1]; rfl, fun k hk => by rw [iv k hk]; exact z2 k hk⟩
          · refine Or.inr ⟨?_, k, z2, ?_⟩
            · show ¬ Int32.ofNat a3.1.1 = Int32.ofNat 0
              exact i32_ne (by omega) (by omega) (by omega)
            · rw [iv k z2, z5]
              show Int32.ofNat 0 < Int32.ofNat s
              rw [i32_lt (by omega) (by omega)]
              omega
      · obtain ⟨y1, y2, y3⟩ := g8 i (by omega)
        rw [io (208 + i) (by omega) (by omega) (by omega) (by omega), io (288 + i) (by omega) (by omega) (by omega) (by omega)]
        refine ⟨y1, fun k hk => ?_, ?_⟩
        · rw [io (368 + 4 * i + k) (by omega) (by omega) (by omega) (by omega)]
          exact y2 k hk
        · rcases y3 with ⟨z1, z2⟩ | ⟨z1, k, z2, z3⟩
          · exact Or.inl ⟨z1, fun k hk => by rw [io (368 + 4 * i + k) (by omega) (by omega) (by omega) (by omega)]; exact z2 k hk⟩
          · exact Or.inr ⟨z1, k, z2, by rw [io (368 + 4 * i + k) (by omega) (by omega) (by omega) (by omega)]; exact z3⟩
theorem pG_ls : ∀ (k : Nat) (a b : Ps × Tok), pG a.1 → pLs T n k a = .inr b → pG b.1 := by
  intro k
  induction k with
  | zero =>
    intro a b G e
    cases e
    exact G
  | succ k ih =>
    intro a b G e
    have e : (if a.2.2.2.1 = 4 then pB (pLn T n a.1 (tok T n a.2.2.1)) (pLs T n k) else .inr a : PE (Ps × Tok)) = .inr b := e
    split at e
    · obtain ⟨c, e1, e2⟩ := pB_i e
      refine ih c b ?_ e2
      unfold pLn at e1
      split at e1
      · exact pG_ic G e1
      · split at e1
        · exact pG_st G e1
        · split at e1
          · exact pG_sp G e1
          · split at e1
            · exact pG_it G e1
            · cases e1
    · cases e
      exact G
theorem pG_tx {q : Ps} (e : pTx T n = .inr q) : pG q ∧ 1 ≤ q.ns := by
  unfold pTx at e
  obtain ⟨a, e1, e⟩ := pB_i e
  obtain ⟨b, e2, e⟩ := pB_i e
  have G := pG_ls 1500 a b (pG_gr e1) e2
  have e3 := pEn_n e
  unfold pEn at e
  split at e
  · split at e
    · cases e
    · rename_i c
      rw [e3]
      exact ⟨G, by omega⟩
  · cases e
end PG9
