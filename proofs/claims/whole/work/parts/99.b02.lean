-- ===== boxes get their ice =====
theorem IvT_c {ns : Nat} {R R' : Nat → Nat → Int32} (h0 : R' 0 2 = R 0 2) (h2 : R' 2 = R 2) (A : IvT ns R) : IvT ns R' := by
  unfold IvT
  rw [h0, h2]
  exact A
theorem IvC_c {x : Nat} {R R' : Nat → Nat → Int32} (h6 : R' 6 = R 6) (A : IvC x R) : IvC x R' := by
  unfold IvC
  rw [h6]
  exact A
theorem IvI_c {ns m i : Nat} {R R' : Nat → Nat → Int32} (h8 : R' 8 = R 8) (h9 : R' 9 = R 9) (h10 : R' 10 = R 10) (h11 : R' 11 = R 11) (A : IvI ns m i R) : IvI ns m i R' := by
  unfold IvI
  rw [h8, h9, h10, h11]
  exact A
theorem IvV_c {ns m : Nat} {R R' : Nat → Nat → Int32} (h12 : R' 12 = R 12) (A : IvV ns m R) : IvV ns m R' := by
  unfold IvV
  rw [h12]
  exact A
theorem IvP_c {ns i pc : Nat} {R R' : Nat → Nat → Int32} (h1 : R' 1 = R 1) (h9 : R' 9 = R 9) (h10 : R' 10 = R 10) (A : IvP ns i pc R) : IvP ns i pc R' := by
  unfold IvP
  rw [h1, h9, h10]
  exact A
theorem IvB_c {ns n q tm : Nat} {R R' : Nat → Nat → Int32} (h14 : R' 14 = R 14) (h15 : R' 15 = R 15) (h16 : R' 16 = R 16) (h17 : R' 17 = R 17) (h18 : R' 18 = R 18) (A : IvB ns n q tm R) : IvB ns n q tm R' := by
  unfold IvB
  rw [h14, h15, h16, h17, h18]
  exact A
theorem IvB_t {ns n q tm tm' : Nat} {R : Nat → Nat → Int32} (h : tm ≤ tm') (A : IvB ns n q tm R) : IvB ns n q tm' R := by
  obtain ⟨A1, A2⟩ := A
  refine ⟨fun b hb => ?_, A2⟩
  obtain ⟨a, c, ⟨t, t1, t2⟩, d, e⟩ := A1 b hb
  refine ⟨a, c, ⟨t, by omega, t2⟩, fun hq => ?_, e⟩
  obtain ⟨s, s1, s2⟩ := d hq
  exact ⟨s, by omega, s2⟩
section NW
variable {S : Nat → Int32} {n x : Nat} {beh : Option Nat}
theorem nwGo_x (hx : x ≤ n) (sk : ∀ b, b < x → nwSkip S beh b = true) (ns : ∀ b, x ≤ b → b < n → nwSkip S beh b = false) (ah : ∀ b, x < b → b < n → aheadB S b x = false) : ∀ (d b : Nat) (best : Option Nat), b + d = n → (best = none ∧ b ≤ x ∨ best = some x ∧ x < b) → nwGo S beh d b best = if x < n then some x else none := by
  intro d
  induction d with
  | zero =>
    intro b best hb hc
    show best = _
    rcases hc with ⟨a, c⟩ | ⟨a, c⟩
    · rw [a, if_neg (by omega)]
    · rw [a, if_pos (by omega)]
  | succ d ih =>
    intro b best hb hc
    show nwGo S beh d (b + 1) (nwStep S beh best b) = _
    refine ih (b + 1) _ (by omega) ?_
    unfold nwStep
    rcases hc with ⟨a, c⟩ | ⟨a, c⟩
    · by_cases e : b = x
      · rw [ns b (by omega) (by omega), if_neg Bool.false_ne_true, a]
        exact Or.inr ⟨by rw [← e]; rfl, by omega⟩
      · rw [sk b (by omega), if_pos rfl]
        exact Or.inl ⟨a, by omega⟩
    · rw [ns b (by omega) (by omega), if_neg Bool.false_ne_true, a]
      refine Or.inr ⟨?_, by omega⟩
      show (if aheadB S b x = true then some b else some x) = some x
      rw [ah b c (by omega), if_neg Bool.false_ne_true]
theorem nw_Q {q : Nat} (hq : q ≤ n) (ic : ∀ b, b < q → ¬ S (1088 + b) = -1) (wa : ∀ b, q ≤ b → b < n → S (1088 + b) = -1) (mo : ∀ a b, a < b → b < n → S (1008 + a) ≤ S (1008 + b)) : nwQ S n q := by
  have ah : ∀ a b, a < b → b < n → aheadB S b a = false ∧ aheadB S a b = true := by
    intro a b hab hb
    have hm := mo a b hab hb
    unfold aheadB
    by_cases e : S (1008 + a) = S (1008 + b)
    · rw [if_pos e, if_pos e.symm]
      exact ⟨decide_eq_false (by omega), decide_eq_true hab⟩
    · rw [if_neg e, if_neg (fun z => e z.symm)]
      refine ⟨decide_eq_false (fun z => ?_), decide_eq_true ?_⟩
      · exact Int32.lt_irrefl (Int32.lt_of_le_of_lt hm z)
      · exact Int32.lt_of_le_of_ne hm e
  refine ⟨?_, fun j hj hn => ?_⟩
  · refine nwGo_x hq (fun b hb => ?_) (fun b hb hb2 => ?_) (fun b hb hb2 => (ah q b hb hb2).1) n 0 none (by omega) (Or.inl ⟨rfl, Nat.zero_le _⟩)
    · unfold nwSkip
      rw [decide_eq_true (ic b hb)]
      rfl
    · unfold nwSkip
      rw [decide_eq_false (fun z => z (wa b hb hb2))]
      rfl
  · refine nwGo_x (x := j + 1) hn (fun b hb => ?_) (fun b hb hb2 => ?_) (fun b hb hb2 => (ah (j + 1) b hb hb2).1) n 0 none (by omega) (Or.inl ⟨rfl, Nat.zero_le _⟩)
    · unfold nwSkip
      have : aheadB S j b = false := by
        by_cases e : b = j
        · rw [e]
          unfold aheadB
          rw [if_pos rfl]
          exact decide_eq_false (by omega)
        · exact (ah b j (by omega) hn).1
      show (decide (¬ S (1088 + b) = -1) || !(aheadB S j b)) = true
      rw [this]
      exact Bool.or_true _
    · unfold nwSkip
      show (decide (¬ S (1088 + b) = -1) || !(aheadB S j b)) = false
      rw [decide_eq_false (fun z => z (wa b (by omega) hb2)), (ah j b (by omega) hb2).2]
      rfl
end NW
section IC2
variable {ns m i pc n q tm : Nat} {du : Nat} {per : Int32} {R : Nat → Nat → Int32} {S pl : Nat → Int32}
theorem nw_of (B : EqB n (Int32.ofNat du) R S) (A : IvB ns n q tm R) (hq : q ≤ n) (ht : tm ≤ 1000000) (hd : du ≤ 99) : nwQ S n q := by
  refine nw_Q hq (fun b hb z => ?_) (fun b hb hb2 => ?_) (fun a b hab hb => ?_)
  · obtain ⟨-, -, -, -, -, e⟩ := B b (by omega)
    obtain ⟨-, -, -, d, -⟩ := A.1 b (by omega)
    obtain ⟨t, t1, t2⟩ := d hb
    rw [e, t2] at z
    exact oN_s (by omega) z
  · obtain ⟨-, -, -, -, -, e⟩ := B b hb2
    obtain ⟨-, -, -, -, d⟩ := A.1 b hb2
    rw [e, d hb]
  · obtain ⟨-, -, -, -, e1, -⟩ := B a (by omega)
    obtain ⟨-, -, -, -, e2, -⟩ := B b hb
    obtain ⟨-, -, ⟨t, t1, t2⟩, -⟩ := A.1 a (by omega)
    obtain ⟨-, -, ⟨s, s1, s2⟩, -⟩ := A.1 b hb
    have mo := A.2 a b (by omega) hb
    rw [t2, s2, i32_nat (by omega), i32_nat (by omega)] at mo
    rw [e1, e2, t2, s2, i32_add, i32_add, i32_le (by omega) (by omega)]
    omega
theorem gcD_r {o : Nat} (h : o ≠ 0 ∧ o ≠ 18 ∧ o ≠ 13) : gcD R q per o = R o := by
  unfold gcD gcC gcB gcA
  rw [z2_o h.2.2, z2_o h.2.1, z2_o h.1, z2_o h.1]
theorem ic_eq (E : EqR ns m pc n (Int32.ofNat du) R S) (hq : q < n) (hn : n ≤ 80) (hm : m ≤ 80) (hp : pc ≤ 10) (hs : ns ≤ 4) : EqR ns m pc n (Int32.ofNat du) (gcD R q per) (icStep per S q) := by
  obtain ⟨⟨s0, s1, s2, s3, s4, s7, s5, s9, s8⟩, P, T, L, C, I, V, B⟩ := E
  have nd : needF S per q = (R 15 q * per + 99) / 100 := by
    unfold needF
    rw [(B q hq).2.1]
  have nd2 : needF (icA per S q) per q = (R 15 q * per + 99) / 100 := by
    unfold needF icA
    rw [zu_o (by omega), (B q hq).2.1]
  have io : ∀ j, j ≠ 3 → j ≠ 4 → j ≠ 1088 + q → icStep per S q j = S j := fun j a b c => icStep_ne a b c
  refine ⟨⟨?_, ?_, ?_, ?_, ?_, ?_, ?_, ?_, ?_⟩, fun j hj => ?_, fun k hk => ?_, fun k hk => ?_, fun k p hk hp => ?_, fun j hj => ?_, fun j k hj hk => ?_, fun b hb => ?_⟩
  · rw [io 0 (by omega) (by omega) (by omega), s0]
    unfold gcD gcC gcB gcA
    simp (disch := omega) only [zu_same, zu_o, z2_s, z2_ne]
  · rw [io 1 (by omega) (by omega) (by omega), s1]
    unfold gcD gcC gcB gcA
    simp (disch := omega) only [zu_same, zu_o, z2_s, z2_ne]
  · rw [io 2 (by omega) (by omega) (by omega), s2]
    unfold gcD gcC gcB gcA
    simp (disch := omega) only [zu_same, zu_o, z2_s, z2_ne]
  · unfold icStep icB gcD gcC gcB
    rw [zu_o (by omega), zu_o (by omega), z2_ne (by omega), z2_ne (by omega), z2_ne (by omega)]
    unfold icA gcA
    rw [zu_same, z2_s, s3, nd]
  · unfold icStep icB gcD gcC gcB
    rw [zu_o (by omega), zu_same, z2_ne (by omega), z2_ne (by omega), z2_s, nd2]
    unfold icA gcA
    rw [zu_o (by omega), z2_ne (by omega), s4]
  · rw [io 7 (by omega) (by omega) (by omega), s7]
    unfold gcD gcC gcB gcA
    simp (disch := omega) only [zu_same, zu_o, z2_s, z2_ne]
  · rw [io 5 (by omega) (by omega) (by omega), s5, gcD_r (by omega)]
  · rw [io 9 (by omega) (by omega) (by omega), s9, gcD_r (by omega)]
  · rw [io 8 (by omega) (by omega) (by omega), s8]
    unfold gcD gcC gcB gcA
    simp (disch := omega) only [zu_same, zu_o, z2_s, z2_ne]
  · rw [io _ (by omega) (by omega) (by omega), gcD_r (by omega)]
    exact P j hj
  · rw [io _ (by omega) (by omega) (by omega), io _ (by omega) (by omega) (by omega), gcD_r (by omega), gcD_r (by omega)]
    exact T k hk
  · rw [io _ (by omega) (by omega) (by omega), io _ (by omega) (by omega) (by omega), gcD_r (by omega), gcD_r (by omega)]
    exact L k hk
  · rw [io _ (by omega) (by omega) (by omega), gcD_r (by omega)]
    exact C k p hk hp
  · rw [io _ (by omega) (by omega) (by omega), io _ (by omega) (by omega) (by omega), io _ (by omega) (by omega) (by omega), io _ (by omega) (by omega) (by omega), gcD_r (by omega), gcD_r (by omega), gcD_r (by omega), gcD_r (by omega)]
    exact I j hj
  · rw [io _ (by omega) (by omega) (by omega), gcD_r (by omega)]
    exact V j k hj hk
  · obtain ⟨b1, b2, b3, b4, b5, b6⟩ := B b hb
    rw [io _ (by omega) (by omega) (by omega), io (768 + b) (by omega) (by omega) (by omega), io (848 + b) (by omega) (by omega) (by omega), io (928 + b) (by omega) (by omega) (by omega), io (1008 + b) (by omega) (by omega) (by omega), gcD_r (by omega), gcD_r (by omega), gcD_r (by omega), gcD_r (by omega)]
    refine ⟨b1, b2, b3, b4, b5, ?_⟩
    by_cases e : b = q
    · subst e
      have e1 : icStep per S b (1088 + b) = S 0 := by
        unfold icStep
        rw [zu_same]
        unfold icB icA
        simp (disch := omega) only [zu_same, zu_o, z2_s, z2_ne]
      rw [e1, s0]
      unfold gcD gcC gcB gcA
      simp (disch := omega) only [zu_same, zu_o, z2_s, z2_ne]
    · rw [io _ (by omega) (by omega) (by omega), b6]
      unfold gcD gcC gcB gcA
      simp (disch := omega) only [zu_same, zu_o, z2_s, z2_ne]
theorem ic_iv (A : IvR ns m i pc n q tm R) (hq : q < n) : IvR ns m i pc n (q + 1) tm (gcD R q per) := by
  obtain ⟨⟨⟨a0, a5, a7, a71, a13, a131⟩, n1, n2, n3, n4, n5, n6, n7⟩, T, C, I, V, P, B⟩ := A
  refine ⟨⟨⟨?_, ?_, ?_, ?_, ?_, ?_⟩, n1, n2, n3, n4, by omega, n6, n7⟩, IvT_c ?_ (gcD_r (by omega)) T, IvC_c (gcD_r (by omega)) C, IvI_c (gcD_r (by omega)) (gcD_r (by omega)) (gcD_r (by omega)) (gcD_r (by omega)) I, IvV_c (gcD_r (by omega)) V, IvP_c (gcD_r (by omega)) (gcD_r (by omega)) (gcD_r (by omega)) P, fun b hb => ?_, ?_⟩
  · unfold gcD gcC gcB gcA
    simp (disch := omega) only [zu_same, zu_o, z2_s, z2_ne, a0]
  · unfold gcD gcC gcB gcA
    simp (disch := omega) only [zu_same, zu_o, z2_s, z2_ne, a5]
  · rw [gcD_r (by omega), a7]
  · rw [gcD_r (by omega), a71]
  · unfold gcD gcC gcB gcA
    simp (disch := omega) only [zu_same, zu_o, z2_s, z2_ne, a13]
  · unfold gcD gcC gcB gcA
    simp (disch := omega) only [zu_same, zu_o, z2_s, z2_ne, a131]
    exact i32_add (b := 1)
  · unfold gcD gcC gcB gcA
    simp (disch := omega) only [zu_same, zu_o, z2_s, z2_ne]
  · obtain ⟨b1, b2, b3, b4, b5⟩ := B.1 b hb
    rw [gcD_r (by omega), gcD_r (by omega), gcD_r (by omega), gcD_r (by omega)]
    refine ⟨b1, b2, b3, fun h => ?_, fun h => ?_⟩
    · by_cases e : b = q
      · subst e
        refine ⟨tm, Nat.le_refl _, ?_⟩
        unfold gcD gcC gcB gcA
        simp (disch := omega) only [zu_same, zu_o, z2_s, z2_ne, a0]
      · have : gcD R q per 18 b = R 18 b := by
          unfold gcD gcC gcB gcA
          simp (disch := omega) only [zu_same, zu_o, z2_s, z2_ne]
        rw [this]
        exact b4 (by omega)
    · have : gcD R q per 18 b = R 18 b := by
        unfold gcD gcC gcB gcA
        simp (disch := omega) only [zu_same, zu_o, z2_s, z2_ne]
      rw [this]
      exact b5 (by omega)
  · rw [gcD_r (by omega)]
    exact B.2
theorem ic_go (hd : du ≤ 99) : ∀ (d f q : Nat) (R : Nat → Nat → Int32) (S : Nat → Int32), q + d = n → d < f → EqR ns m pc n (Int32.ofNat du) R S → IvR ns m i pc n q tm R → ∃ q', EqR ns m pc n (Int32.ofNat du) (gcGo per d q R) (icGo per n f S) ∧ IvR ns m i pc n q' tm (gcGo per d q R) ∧ gcGo per d q R 10 = R 10 ∧ icGo per n f S 6 = S 6 := by
  intro d
  induction d with
  | zero =>
    intro f q R S hq hf E A
    obtain ⟨f, rfl⟩ : ∃ k, f = k + 1 := ⟨f - 1, by omega⟩
    have nw := (nw_of E.2.2.2.2.2.2.2 A.2.2.2.2.2.2 (by omega) A.1.2.2.2.2.2.2.1 hd).1
    rw [if_neg (by omega)] at nw
    have e : icGo per n (f + 1) S = S := by
      show (match nwGo S none n 0 none with
        | none => S
        | some b => if S 3 < needF S per b then S else icGo per n f (icStep per S b)) = S
      rw [nw]
    rw [e]
    exact ⟨q, E, A, rfl, rfl⟩
  | succ d ih =>
    intro f q R S hq hf E A
    obtain ⟨f, rfl⟩ : ∃ k, f = k + 1 := ⟨f - 1, by omega⟩
    have A1 := A.1.2
    have nw := (nw_of E.2.2.2.2.2.2.2 A.2.2.2.2.2.2 (by omega) A.1.2.2.2.2.2.2.1 hd).1
    rw [if_pos (by omega)] at nw
    have e : icGo per n (f + 1) S = if S 3 < needF S per q then S else icGo per n f (icStep per S q) := by
      show (match nwGo S none n 0 none with
        | none => S
        | some b => if S 3 < needF S per b then S else icGo per n f (icStep per S b)) = _
      rw [nw]
    have nd : needF S per q = (R 15 q * per + 99) / 100 := by
      unfold needF
      rw [(E.2.2.2.2.2.2.2 q (by omega)).2.1]
    have s3 : S 3 = R 0 3 := E.1.2.2.2.1
    rw [e, nd, s3]
    show ∃ q', EqR ns m pc n (Int32.ofNat du) (if (R 15 q * per + 99) / 100 ≤ R 0 3 then gcGo per d (q + 1) (gcD R q per) else R) _ ∧ IvR ns m i pc n q' tm (if (R 15 q * per + 99) / 100 ≤ R 0 3 then gcGo per d (q + 1) (gcD R q per) else R) ∧ (if (R 15 q * per + 99) / 100 ≤ R 0 3 then gcGo per d (q + 1) (gcD R q per) else R) 10 = R 10 ∧ _
    by_cases c : (R 15 q * per + 99) / 100 ≤ R 0 3
    · rw [if_pos c, if_neg (fun z => Int32.lt_irrefl (Int32.lt_of_lt_of_le z c))]
      obtain ⟨q', E', A', r', j'⟩ := ih f (q + 1) (gcD R q per) (icStep per S q) (by omega) (by omega) (ic_eq E (by omega) (by omega) (by omega) (by omega) (by omega)) (ic_iv A (by omega))
      refine ⟨q', E', A', r'.trans (gcD_r (by omega)), j'.trans ?_⟩
      exact icStep_ne (by omega) (by omega) (by omega)
    · rw [if_neg c, if_pos (Int32.not_le.mp c)]
      exact ⟨q, E, A, rfl, rfl⟩
theorem tc_iv {me mk sto : Int32} (A : IvR ns m i pc n q tm R) (ht : tm < 1000000) : IvR ns m i pc n q (tm + 1) (gtC me mk sto R) := by
  have gr : ∀ o, o ≠ 0 → gtC me mk sto R o = R o := fun o ho => by
    funext j
    exact gtCo (Or.inl ho)
  obtain ⟨⟨⟨a0, a5, a7, a71, a13, a131⟩, n1, n2, n3, n4, n5, n6, n7⟩, T, C, I, V, P, B⟩ := A
  refine ⟨⟨⟨?_, ?_, ?_, ?_, ?_, ?_⟩, n1, n2, n3, n4, n5, ht, n7⟩, IvT_c (gtCo (by omega)) (gr 2 (by decide)) T, IvC_c (gr 6 (by decide)) C, IvI_c (gr 8 (by decide)) (gr 9 (by decide)) (gr 10 (by decide)) (gr 11 (by decide)) I, IvV_c (gr 12 (by decide)) V, IvP_c (gr 1 (by decide)) (gr 9 (by decide)) (gr 10 (by decide)) P, IvB_t (Nat.le_succ tm) (IvB_c (gr 14 (by decide)) (gr 15 (by decide)) (gr 16 (by decide)) (gr 17 (by decide)) (gr 18 (by decide)) B)⟩
  · rw [gtC0, a0]
    exact i32_add (b := 1)
  · rw [gtCo (by omega), a5]
  · rw [gtCo (by omega), a7]
  · rw [gtCo (by omega), a71]
  · rw [gtCo (by omega), a13]
  · rw [gtCo (by omega), a131]
end IC2
