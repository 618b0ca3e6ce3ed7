-- ===== each line eats a byte; the ends of the text: pure =====
section ADV
variable {T : Nat → Nat} {n : Nat} {t t' t2 : Tok}
def adv (T : Nat → Nat) (n : Nat) (t t' : Tok) : Prop := ∃ p, t.2.1 ≤ p ∧ p ≤ n ∧ t' = tok T n p
theorem adv_in (A : adv T n t t') : tIn n t' := by
  obtain ⟨p, -, h, rfl⟩ := A
  exact tok_in h
theorem adv_tr (A : adv T n t t') (B : adv T n t' t2) : adv T n t t2 := by
  obtain ⟨p, a, b, rfl⟩ := A
  obtain ⟨p', c, d, rfl⟩ := B
  have := tok_le (T := T) b
  exact ⟨p', by omega, d, rfl⟩
theorem adv_n (hi : tIn n t) : adv T n t (tok T n t.2.1) := ⟨t.2.1, Nat.le_refl _, hi.2, rfl⟩
theorem pNu_a {lo hi : Nat} {a : Nat × Tok} (h : tIn n t) (e : pNu T n lo hi t = .inr a) : adv T n t a.2 := by
  unfold pNu at e
  split at e
  · cases e
    exact adv_n h
  · cases e
theorem pKw_a {i : Nat} {a : Tok} (h : tIn n t) (e : pKw T n i t = .inr a) : adv T n t a := by
  unfold pKw at e
  split at e
  · cases e
    exact adv_n h
  · cases e
theorem pNm_a {i lo hi : Nat} {a : Nat × Tok} (h : tIn n t) (e : pNm T n i lo hi t = .inr a) : adv T n t a.2 := by
  obtain ⟨b, e1, e2⟩ := pB_i e
  have A := pKw_a h e1
  exact adv_tr A (pNu_a (adv_in A) e2)
theorem pIc_a {q : Ps} {b : Ps × Tok} (h : tIn n t) (e : pIc T n q t = .inr b) : adv T n t b.2 := by
  unfold pIc at e
  split at e
  · cases e
  · have A0 := adv_n (T := T) h
    obtain ⟨a1, e1, e⟩ := pB_i e
    have A1 := adv_tr A0 (pNu_a (adv_in A0) e1)
    obtain ⟨a2, e2, e⟩ := pB_i e
    have A2 := adv_tr A1 (pNu_a (adv_in A1) e2)
    obtain ⟨a3, e3, e⟩ := pB_i e
    have A3 := adv_tr A2 (pNu_a (adv_in A2) e3)
    obtain ⟨a4, e4, e⟩ := pB_i e
    have A4 := adv_tr A3 (pNu_a (adv_in A3) e4)
    obtain ⟨a5, e5, e⟩ := pB_i e
    have A5 := adv_tr A4 (pNu_a (adv_in A4) e5)
    cases e
    exact A5
theorem pSt_a {q : Ps} {b : Ps × Tok} (h : tIn n t) (e : pSt T n q t = .inr b) : adv T n t b.2 := by
  unfold pSt at e
  split at e
  · cases e
  · have A0 := adv_n (T := T) h
    obtain ⟨a1, e1, e⟩ := pB_i e
    have A1 := adv_tr A0 (pNu_a (adv_in A0) e1)
    obtain ⟨a2, e2, e⟩ := pB_i e
    have A2 := adv_tr A1 (pNu_a (adv_in A1) e2)
    cases e
    exact A2
theorem pSp_a {q : Ps} {b : Ps × Tok} (h : tIn n t) (e : pSp T n q t = .inr b) : adv T n t b.2 := by
  unfold pSp at e
  split at e
  · cases e
  · split at e
    · split at e
      · cases e
      · have A0 := adv_n (T := T) h
        have A00 := adv_tr A0 (adv_n (T := T) (adv_in A0))
        obtain ⟨a1, e1, e⟩ := pB_i e
        have A1 := adv_tr A00 (pNm_a (adv_in A00) e1)
        obtain ⟨a2, e2, e⟩ := pB_i e
        have A2 := adv_tr A1 (pNm_a (adv_in A1) e2)
        obtain ⟨a3, e3, e⟩ := pB_i e
        have A3 := adv_tr A2 (pNm_a (adv_in A2) e3)
        obtain ⟨a4, e4, e⟩ := pB_i e
        have A4 := adv_tr A3 (pNm_a (adv_in A3) e4)
        cases e
        exact A4
    · cases e
theorem pSm_a {x : Nat × Nat} {b : (Nat × Nat) × Tok} (h : tIn n t) (e : pSm T n x t = .inr b) : adv T n t b.2 := by
  unfold pSm at e
  obtain ⟨a1, e1, e⟩ := pB_i e
  have A1 := pNu_a h e1
  obtain ⟨a2, e2, e⟩ := pB_i e
  have A2 := adv_tr A1 (pNu_a (adv_in A1) e2)
  cases e
  exact A2
theorem pSl_a : ∀ (k : Nat) (a b : (Nat × Nat) × Tok) (t : Tok), adv T n t a.2 → pSl T n k a = .inr b → adv T n t b.2 := by
  intro k
  induction k with
  | zero =>
    intro a b t A e
    have e : (if isK T a.2 13 = true then .inl (5, a.2.1) else .inr a : PE ((Nat × Nat) × Tok)) = .inr b := e
    split at e
    · cases e
    · cases e
      exact A
  | succ k ih =>
    intro a b t A e
    have e : (if isK T a.2 13 = true then pB (pSm T n a.1 (tok T n a.2.2.1)) (pSl T n k) else .inr a : PE ((Nat × Nat) × Tok)) = .inr b := e
    split at e
    · obtain ⟨c, e1, e2⟩ := pB_i e
      have A0 := adv_tr A (adv_n (T := T) (adv_in A))
      exact ih c b t (adv_tr A0 (pSm_a (adv_in A0) e1)) e2
    · cases e
      exact A
theorem pVo_a {nm : Nat → Nat × (Nat → Nat)} {ns : Nat} {f : Nat → Int32} {b : (Nat → Int32) × Tok} (h : tIn n t) (e : pVo T n nm ns f t = .inr b) : adv T n t b.2 := by
  unfold pVo at e
  split at e
  · split at e
    · have A0 := adv_n (T := T) h
      obtain ⟨a1, e1, e⟩ := pB_i e
      have A1 := adv_tr A0 (pNu_a (adv_in A0) e1)
      cases e
      exact A1
    · cases e
  · cases e
theorem pVl_a {nm : Nat → Nat × (Nat → Nat)} {ns : Nat} : ∀ (k : Nat) (a b : (Nat × (Nat → Int32)) × Tok) (t : Tok), adv T n t a.2 → pVl T n nm ns k a = .inr b → adv T n t b.2 := by
  intro k
  induction k with
  | zero =>
    intro a b t A e
    have e : (if isK T a.2 14 = true then .inl (5, a.2.1) else .inr a : PE ((Nat × (Nat → Int32)) × Tok)) = .inr b := e
    split at e
    · cases e
    · cases e
      exact A
  | succ k ih =>
    intro a b t A e
    have e : (if isK T a.2 14 = true then pB (pVo T n nm ns a.1.2 (tok T n a.2.2.1)) (fun b => pVl T n nm ns k ((a.1.1 + 1, b.1), b.2)) else .inr a : PE ((Nat × (Nat → Int32)) × Tok)) = .inr b := e
    split at e
    · obtain ⟨c, e1, e2⟩ := pB_i e
      have A0 := adv_tr A (adv_n (T := T) (adv_in A))
      exact ih ((a.1.1 + 1, c.1), c.2) b t (adv_tr A0 (pVo_a (adv_in A0) e1)) e2
    · cases e
      exact A
theorem pIt_a {q : Ps} {b : Ps × Tok} (h : tIn n t) (e : pIt T n q t = .inr b) : adv T n t b.2 := by
  unfold pIt at e
  split at e
  · cases e
  · have A0 := adv_n (T := T) h
    obtain ⟨a1, e1, e⟩ := pB_i e
    have A1 := adv_tr A0 (pSm_a (adv_in A0) e1)
    obtain ⟨a2, e2, e⟩ := pB_i e
    have A2 := pSl_a 2 a1 a2 t A1 e2
    obtain ⟨a3, e3, e⟩ := pB_i e
    have A3 := pVl_a 5 _ a3 t A2 e3
    cases e
    exact A3
theorem pLn_a {q : Ps} {b : Ps × Tok} (h : tIn n t) (e : pLn T n q t = .inr b) : adv T n t b.2 := by
  unfold pLn at e
  split at e
  · exact pIc_a h e
  · split at e
    · exact pSt_a h e
    · split at e
      · exact pSp_a h e
      · split at e
        · exact pIt_a h e
        · cases e
theorem tok_4 {p : Nat} (hp : p ≤ n) (h4 : (tok T n p).2.2.1 = 4) : p + 1 ≤ (tok T n p).2.1 := by
  have hs := (rn_le (q := isB T) (n - p) p).1
  revert h4
  unfold tok tokS
  generalize rn (isB T) (n - p) p = s at hs
  by_cases c1 : n ≤ s
  · rw [if_pos c1]
    intro h4
    cases h4
  · rw [if_neg c1]
    by_cases c2 : isL T s = true
    · rw [if_pos c2]
      intro h4
      have h4 : (if 9 < rn (isL T) (n - s) s - s then 1 else 2) = 4 := h4
      split at h4 <;> cases h4
    · rw [if_neg c2]
      by_cases c3 : isD T s = true
      · rw [if_pos c3]
        intro h4
        have h4 : (if 6 < rn (isD T) (n - s) s - s then 1 else 3) = 4 := h4
        split at h4 <;> cases h4
      · rw [if_neg c3]
        intro _
        show p + 1 ≤ s + 1
        omega
end ADV
theorem fl_cI {A : Type} {f g : Nat → A → A} {I : A → Prop} : ∀ (d i : Nat) (a : A), I a → (∀ j x, i ≤ j → j < i + d → I x → f j x = g j x ∧ I (f j x)) → fl f d i a = fl g d i a := by
  intro d
  induction d with
  | zero => intro i a _ _; rfl
  | succ d ih =>
    intro i a ha h
    obtain ⟨e, k⟩ := h i a (Nat.le_refl _) (by omega) ha
    show fl f d (i + 1) (f i a) = fl g d (i + 1) (g i a)
    rw [← e]
    exact ih (i + 1) (f i a) k (fun j x a b c => h j x (by omega) (by omega) c)
theorem bkF_c {S S' : Nat → Int32} {i nk : Nat} (e : ∀ j, 368 ≤ j → j < 688 → S j = S' j) (hi : i < 80) (hnk : nk ≤ 4) : bkF S i nk = bkF S' i nk := by
  unfold bkF
  refine fl_cI (I := fun x => x < 4) _ _ _ (by decide) fun j x a b hx => ?_
  unfold bkS
  rw [e _ (by omega) (by omega), e (368 + 4 * i + j) (by omega) (by omega)]
  refine ⟨rfl, ?_⟩
  split <;> omega
theorem leadF_c {S S' : Nat → Int32} {i nk : Nat} (e : ∀ j, 368 ≤ j → j < 688 → S j = S' j) (hi : i < 80) (hnk : nk ≤ 4) : leadF S i nk = leadF S' i nk := by
  have hb := (bkF_lt (S := S) (i := i) hnk).1
  unfold leadF
  rw [← bkF_c e hi hnk, e _ (by omega) (by omega)]
  congr 1
  refine fl_congr _ _ _ fun j x a b => ?_
  unfold ldS
  rw [e (368 + 4 * i + j) (by omega) (by omega)]
theorem kbF_c {S S' pl pl' : Nat → Int32} {i nk : Nat} (e : ∀ j, 368 ≤ j → j < 688 → S j = S' j) (hp : pl 1 = pl' 1) (hi : i < 80) (hnk : nk ≤ 4) : kbF S pl i nk = kbF S' pl' i nk := by
  unfold kbF
  rw [leadF_c e hi hnk, bkF_c e hi hnk, hp]
/-- the draft's row when k items have been gone through at the end -/
def enR (D pl : Nat → Int32) (nk m k j : Nat) : Int32 := if 128 ≤ j ∧ j < 128 + k then -1 else if 288 ≤ j ∧ j < 288 + k ∧ j < 288 + m then (if D j = 0 then -1 else kbF D pl (j - 288) nk) else D j
theorem enR_o {D pl : Nat → Int32} {nk m k j : Nat} (hk : k ≤ 80) (hj : j < 128 ∨ 368 ≤ j) : enR D pl nk m k j = D j := by
  unfold enR
  rw [if_neg (by omega), if_neg (by omega)]
theorem enR_0 {D pl : Nat → Int32} {nk m : Nat} : enR D pl nk m 0 = D := by
  funext j
  unfold enR
  rw [if_neg (by omega), if_neg (by omega)]
theorem enR_c {D D' pl pl' : Nat → Int32} {nk m k j : Nat} (e : ∀ j, j < 1168 → D j = D' j) (hp : pl 1 = pl' 1) (hnk : nk ≤ 4) (hk : k ≤ 80) (hj : j < 1168) : enR D pl nk m k j = enR D' pl' nk m k j := by
  unfold enR
  by_cases c1 : 128 ≤ j ∧ j < 128 + k
  · rw [if_pos c1, if_pos c1]
  · rw [if_neg c1, if_neg c1]
    by_cases c2 : 288 ≤ j ∧ j < 288 + k ∧ j < 288 + m
    · rw [if_pos c2, if_pos c2, e j hj, kbF_c (fun j a b => e j (by omega)) hp (by omega) hnk]
    · rw [if_neg c2, if_neg c2, e j hj]
theorem enR_y {D pl : Nat → Int32} {nk m k : Nat} {v : Int32} (hk : k < 80) (hm : k < m) (hv : v = if D (288 + k) = 0 then -1 else kbF D pl k nk) : zu (zu (enR D pl nk m k) (128 + k) (-1)) (288 + k) v = enR D pl nk m (k + 1) := by
  funext j
  unfold zu
  by_cases c1 : j = 288 + k
  · rw [if_pos c1, hv, c1]
    unfold enR
    rw [if_neg (show ¬ (128 ≤ 288 + k ∧ 288 + k < 128 + (k + 1)) by omega), if_pos (show 288 ≤ 288 + k ∧ 288 + k < 288 + (k + 1) ∧ 288 + k < 288 + m by omega), show 288 + k - 288 = k by omega]
  · rw [if_neg c1]
    by_cases c2 : j = 128 + k
    · rw [if_pos c2, c2]
      unfold enR
      rw [if_pos (by omega)]
    · rw [if_neg c2]
      unfold enR
      by_cases c3 : 128 ≤ j ∧ j < 128 + k
      · rw [if_pos c3, if_pos (show 128 ≤ j ∧ j < 128 + (k + 1) by omega)]
      · rw [if_neg c3, if_neg (show ¬ (128 ≤ j ∧ j < 128 + (k + 1)) by omega)]
        by_cases c4 : 288 ≤ j ∧ j < 288 + k ∧ j < 288 + m
        · rw [if_pos c4, if_pos (show 288 ≤ j ∧ j < 288 + (k + 1) ∧ j < 288 + m by omega)]
        · rw [if_neg c4, if_neg (show ¬ (288 ≤ j ∧ j < 288 + (k + 1) ∧ j < 288 + m) by omega)]
theorem enR_n {D pl : Nat → Int32} {nk m k : Nat} (hk : k < 80) (hm : m ≤ k) : zu (enR D pl nk m k) (128 + k) (-1) = enR D pl nk m (k + 1) := by
  funext j
  unfold zu
  by_cases c2 : j = 128 + k
  · rw [if_pos c2, c2]
    unfold enR
    rw [if_pos (by omega)]
  · rw [if_neg c2]
    unfold enR
    by_cases c3 : 128 ≤ j ∧ j < 128 + k
    · rw [if_pos c3, if_pos (show 128 ≤ j ∧ j < 128 + (k + 1) by omega)]
    · rw [if_neg c3, if_neg (show ¬ (128 ≤ j ∧ j < 128 + (k + 1)) by omega)]
      by_cases c4 : 288 ≤ j ∧ j < 288 + k ∧ j < 288 + m
      · rw [if_pos c4, if_pos (show 288 ≤ j ∧ j < 288 + (k + 1) ∧ j < 288 + m by omega)]
      · rw [if_neg c4, if_neg (show ¬ (288 ≤ j ∧ j < 288 + (k + 1) ∧ j < 288 + m) by omega)]
def cl0 (k : Nat) (D : Nat → Int32) : Nat → Int32 := fun j => if j < k then 0 else D j
theorem cl0_s {k : Nat} {D : Nat → Int32} : zu (cl0 k D) k 0 = cl0 (k + 1) D := by
  funext j
  unfold zu cl0
  by_cases c : j = k
  · rw [if_pos c, if_pos (by omega)]
  · rw [if_neg c]
    by_cases c2 : j < k
    · rw [if_pos c2, if_pos (by omega)]
    · rw [if_neg c2, if_neg (by omega)]
theorem cl0_0 {D : Nat → Int32} : cl0 0 D = D := by
  funext j
  exact if_neg (Nat.not_lt_zero j)
