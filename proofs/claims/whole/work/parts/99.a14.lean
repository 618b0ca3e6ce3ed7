-- ===== species lines: the method =====
theorem tok_w {T : Nat → Nat} {n p : Nat} (h2 : (tok T n p).2.2.1 = 2) : (tok T n p).2.1 ≤ (tok T n p).1 + 9 ∧ ∀ j, (tok T n p).1 ≤ j → j < (tok T n p).2.1 → T j < 128 := by
  unfold tok tokS at h2 ⊢
  generalize rn (isB T) (n - p) p = s at h2 ⊢
  by_cases c1 : n ≤ s
  · rw [if_pos c1] at h2
    cases h2
  · rw [if_neg c1] at h2 ⊢
    by_cases c2 : isL T s = true
    · rw [if_pos c2] at h2 ⊢
      have h2 : (if 9 < rn (isL T) (n - s) s - s then 1 else 2) = 2 := h2
      have h3 : ¬ 9 < rn (isL T) (n - s) s - s := fun q => by
        rw [if_pos q] at h2
        cases h2
      refine ⟨?_, fun j a b => ?_⟩
      · show rn (isL T) (n - s) s ≤ s + 9
        omega
      · have := of_decide_eq_true (rn_in (q := isL T) (n - s) s j a b)
        omega
    · rw [if_neg c2] at h2
      by_cases c3 : isD T s = true
      · rw [if_pos c3] at h2
        have h2 : (if 6 < rn (isD T) (n - s) s - s then 1 else 3) = 2 := h2
        split at h2 <;> cases h2
      · rw [if_neg c3] at h2
        have h2 : (if T s = 59 then 4 else 1) = 2 := h2
        split at h2 <;> cases h2
def pSp (T : Nat → Nat) (n : Nat) (q : Ps) (t : Tok) : PE (Ps × Tok) := if 4 ≤ q.ns then .inl (5, t.1) else if pNa T (tok T n t.2.1) = true then (match pKi T q.nm q.ns (tok T n t.2.1) with
  | some _ => .inl (4, (tok T n t.2.1).1)
  | none => pB (pNm T n 8 1 30000 (tok T n (tok T n t.2.1).2.1)) fun a => pB (pNm T n 9 0 999999 a.2) fun b => pB (pNm T n 10 1 3 b.2) fun e => pB (pNm T n 11 0 99 e.2) fun f =>
    .inr ((zu (zu (zu q.pl (8 + q.ns) (Int32.ofNat e.1)) (12 + q.ns) (Int32.ofNat f.1)) 7 (Int32.ofNat (q.ns + 1)), zu (zu q.dr (10 + q.ns) (Int32.ofNat a.1)) (14 + q.ns) (Int32.ofNat b.1), zu q.nm q.ns ((tok T n t.2.1).2.1 - (tok T n t.2.1).1, fun j => T ((tok T n t.2.1).1 + j)), q.ic, q.st, q.ns + 1, q.ni), f.2)) else .inl (1, (tok T n t.2.1).1)
section PAS
variable {h : Mm} {tk pr d c n : Nat} {T : Nat → Nat} {F P P' : Nat → Int32} {D R : Nat → Nat → Int32} {t : Tok}
theorem crel_p {q : Ps} {h1 : Mm} {a b e f : Nat} {w : Nat × (Nat → Nat)} (C : CRel q h P D R) (hs : q.ns < 4) (h3 : kP P P') : CRel (zu (zu (zu q.pl (8 + q.ns) (Int32.ofNat e)) (12 + q.ns) (Int32.ofNat f)) 7 (Int32.ofNat (q.ns + 1)), zu (zu q.dr (10 + q.ns) (Int32.ofNat a)) (14 + q.ns) (Int32.ofNat b), zu q.nm q.ns w, q.ic, q.st, q.ns + 1, q.ni) h1 P' (zu2 (zu2 (zu2 D (3 + q.ns) 1 (Int32.ofNat e)) (3 + q.ns) 2 (Int32.ofNat f)) 0 11 (Int32.ofNat (q.ns + 1))) (zu2 (zu2 R 2 q.ns (Int32.ofNat a)) 3 q.ns (Int32.ofNat b)) := by
  obtain ⟨⟨⟨i1, i2, i3, i4, i5, i6⟩, ⟨a1, a2⟩, a3, a4, a5, a6⟩, ⟨b1, b2⟩, ⟨I0, I⟩, ⟨c1, c2, c3, c4, c5, c6, c7, c8, c9, c10⟩, p3⟩ := C
  have pl : ∀ j, j < 7 ∨ 16 ≤ j → zu (zu (zu q.pl (8 + q.ns) (Int32.ofNat e)) (12 + q.ns) (Int32.ofNat f)) 7 (Int32.ofNat (q.ns + 1)) j = q.pl j := fun j hj => by
    rw [zu_o (by omega), zu_o (by omega), zu_o (by omega)]
  have dl : ∀ j, j < 10 ∨ 18 ≤ j → zu (zu q.dr (10 + q.ns) (Int32.ofNat a)) (14 + q.ns) (Int32.ofNat b) j = q.dr j := fun j hj => by
    rw [zu_o (by omega), zu_o (by omega)]
  have D0 : ∀ k, k ≠ 11 → zu2 (zu2 (zu2 D (3 + q.ns) 1 (Int32.ofNat e)) (3 + q.ns) 2 (Int32.ofNat f)) 0 11 (Int32.ofNat (q.ns + 1)) 0 k = D 0 k := fun k hk => by
    rw [z2_ne (Or.inr hk), z2_ne (by omega), z2_ne (by omega)]
  have D1 : ∀ o k, o = 1 ∨ o = 2 → zu2 (zu2 (zu2 D (3 + q.ns) 1 (Int32.ofNat e)) (3 + q.ns) 2 (Int32.ofNat f)) 0 11 (Int32.ofNat (q.ns + 1)) o k = D o k := fun o k ho => by
    rw [z2_ne (by omega), z2_ne (by omega), z2_ne (by omega)]
  have Rk : ∀ o k, (o ≠ 2 ∧ o ≠ 3) → zu2 (zu2 R 2 q.ns (Int32.ofNat a)) 3 q.ns (Int32.ofNat b) o k = R o k := fun o k ho => by
    rw [z2_ne (by omega), z2_ne (by omega)]
  have p7 : zu (zu (zu q.pl (8 + q.ns) (Int32.ofNat e)) (12 + q.ns) (Int32.ofNat f)) 7 (Int32.ofNat (q.ns + 1)) 7 = Int32.ofNat (q.ns + 1) := zu_same
  refine ⟨⟨⟨i1, hs, i3, (pl 16 (by omega)).trans i4, p7, (dl 9 (by omega)).trans i6⟩, ⟨fun k hk => ?_, ?_⟩, ?_, z2_s, fun k hk => ?_, fun k hk => ?_⟩, ⟨?_, fun k hk => ?_⟩, ⟨?_, fun i hi => ?_⟩, ⟨?_, ?_, ?_, ?_, ?_, fun k hk => ⟨?_, ?_⟩, fun k hk => ?_, ?_, ?_, ?_⟩, h3.1.trans p3.1, h3.2.1.trans p3.2.1, h3.2.2.trans p3.2.2⟩
  · exact ((D0 k (by omega)).trans (a1 k hk)).trans (pl k (by omega)).symm
  · exact ((D0 7 (by omega)).trans a2).trans (pl 25 (by omega)).symm
  · exact (D0 8 (by omega)).trans a3
  · have hk : k < q.st := hk
    obtain ⟨x, y⟩ := a5 k hk
    exact ⟨((D1 1 k (by omega)).trans x).trans (pl _ (by omega)).symm, ((D1 2 k (by omega)).trans y).trans (pl _ (by omega)).symm⟩
  · have hk : k < q.ns + 1 := hk
    show zu2 (zu2 (zu2 D (3 + q.ns) 1 (Int32.ofNat e)) (3 + q.ns) 2 (Int32.ofNat f)) 0 11 (Int32.ofNat (q.ns + 1)) (3 + k) 1 = zu (zu (zu q.pl (8 + q.ns) (Int32.ofNat e)) (12 + q.ns) (Int32.ofNat f)) 7 (Int32.ofNat (q.ns + 1)) (8 + k) ∧ zu2 (zu2 (zu2 D (3 + q.ns) 1 (Int32.ofNat e)) (3 + q.ns) 2 (Int32.ofNat f)) 0 11 (Int32.ofNat (q.ns + 1)) (3 + k) 2 = zu (zu (zu q.pl (8 + q.ns) (Int32.ofNat e)) (12 + q.ns) (Int32.ofNat f)) 7 (Int32.ofNat (q.ns + 1)) (12 + k)
    by_cases ek : k = q.ns
    · rw [ek]
      refine ⟨?_, ?_⟩
      · rw [z2_ne (by omega), z2_ne (by omega), z2_s, zu_o (by omega), zu_o (by omega), zu_same]
      · rw [z2_ne (by omega), z2_s, zu_o (by omega), zu_same]
    · obtain ⟨x, y⟩ := a6 k (by omega)
      refine ⟨?_, ?_⟩
      · rw [z2_ne (by omega), z2_ne (by omega), z2_ne (by omega), zu_o (by omega), zu_o (by omega), zu_o (by omega)]
        exact x
      · rw [z2_ne (by omega), z2_ne (by omega), z2_ne (by omega), zu_o (by omega), zu_o (by omega), zu_o (by omega)]
        exact y
  · exact ((Rk 0 2 (by omega)).trans b1).trans (dl 2 (by omega)).symm
  · have hk : k < q.ns + 1 := hk
    show zu2 (zu2 R 2 q.ns (Int32.ofNat a)) 3 q.ns (Int32.ofNat b) 2 k = zu (zu q.dr (10 + q.ns) (Int32.ofNat a)) (14 + q.ns) (Int32.ofNat b) (10 + k) ∧ zu2 (zu2 R 2 q.ns (Int32.ofNat a)) 3 q.ns (Int32.ofNat b) 3 k = zu (zu q.dr (10 + q.ns) (Int32.ofNat a)) (14 + q.ns) (Int32.ofNat b) (14 + k)
    by_cases ek : k = q.ns
    · rw [ek]
      refine ⟨?_, ?_⟩
      · rw [z2_ne (by omega), z2_s, zu_o (by omega), zu_same]
      · rw [z2_s, zu_same]
    · obtain ⟨x, y⟩ := b2 k (by omega)
      refine ⟨?_, ?_⟩
      · rw [z2_ne (by omega), z2_ne (by omega), zu_o (by omega), zu_o (by omega)]
        exact x
      · rw [z2_ne (by omega), z2_ne (by omega), zu_o (by omega), zu_o (by omega)]
        exact y
  · exact (Rk 7 0 (by omega)).trans I0
  · obtain ⟨x1, x2, x3, x4, x5⟩ := I i hi
    have hi : i < q.ni := hi
    refine ⟨((Rk 8 i (by omega)).trans x1).trans (dl _ (by omega)).symm, fun k hk => ((Rk 12 _ (by omega)).trans (x2 k hk)).trans (dl _ (by omega)).symm, ?_, (Rk 10 i (by omega)).trans x4, (Rk 11 i (by omega)).trans x5⟩
    show zu2 (zu2 R 2 q.ns (Int32.ofNat a)) 3 q.ns (Int32.ofNat b) 9 i = dtF (zu2 (zu2 R 2 q.ns (Int32.ofNat a)) 3 q.ns (Int32.ofNat b)) i (zu (zu (zu q.pl (8 + q.ns) (Int32.ofNat e)) (12 + q.ns) (Int32.ofNat f)) 7 (Int32.ofNat (q.ns + 1)) 1)
    rw [Rk 9 i (by omega), x3, pl 1 (by omega)]
    exact dtF_c (fun k hk => (Rk 12 _ (by omega)).symm)
  · exact (Rk _ _ (by omega)).trans c1
  · exact (Rk _ _ (by omega)).trans c2
  · exact (Rk _ _ (by omega)).trans c3
  · exact (Rk _ _ (by omega)).trans c4
  · exact (Rk _ _ (by omega)).trans c5
  · exact (Rk _ _ (by omega)).trans (c6 k hk).1
  · exact (Rk _ _ (by omega)).trans (c6 k hk).2
  · exact (Rk _ _ (by omega)).trans (c7 k hk)
  · exact (Rk _ _ (by omega)).trans c8
  · exact (Rk _ _ (by omega)).trans c9
  · exact (Rk _ _ (by omega)).trans c10
end PAS
