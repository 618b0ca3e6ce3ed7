-- ===== calls: append, load =====
section LDF
variable {X : WX} {u d b c v cap : Nat} {h h' h1 : Mm} {F P : Nat → Int32} {D R : Nat → Nat → Int32} {x y : Int32}
theorem cp_D {tk pr o : Nat} (J : DJ tk pr d c) (ho : o < 7) : (h'.cp tk pr d c F P D R).mi (d + o) = D o := by
  obtain ⟨j1, j2, j3, j4, j5, j6⟩ := J
  show (if d + o = tk then F else if d + o = pr then P else if d ≤ d + o ∧ d + o < d + 7 then D (d + o - d) else if c ≤ d + o ∧ d + o < c + 19 then R (d + o - c) else h'.mi (d + o)) = D o
  rw [if_neg (by omega), if_neg (by omega), if_pos (by omega), show d + o - d = o by omega]
theorem cp_R {tk pr o : Nat} (J : DJ tk pr d c) (ho : o < 19) : (h'.cp tk pr d c F P D R).mi (c + o) = R o := by
  obtain ⟨j1, j2, j3, j4, j5, j6⟩ := J
  show (if c + o = tk then F else if c + o = pr then P else if d ≤ c + o ∧ c + o < d + 7 then D (c + o - d) else if c ≤ c + o ∧ c + o < c + 19 then R (c + o - c) else h'.mi (c + o)) = R o
  rw [if_neg (by omega), if_neg (by omega), if_neg (by omega), if_pos (by omega), show c + o - c = o by omega]
theorem ld_gen (E : EXT d 6 (h.si 200 1 0) h') (hz : 291 ≤ h.sz) (hd : 202 ≤ d ∧ d ≤ 209) (Bc : BK h c) (k1 : h1.kd = h'.kd) (r1 : ∀ a, a ≠ 200 → h1.mr a = h'.mr a) (r2 : ∀ j, (j < 5 ∨ 8 < j) → h1.mr 200 j = h'.mr 200 j) (m1 : ∀ a, a ≠ 200 → h1.mi a = (h'.cp (h.sz + 1) h.sz d c F P D R).mi a) (l1 : h1.ml = h'.ml) (s1 : h1.sz = h'.sz) (n1 : h1.nc ≤ h'.nc + 1) (n2 : h1.ns ≤ h'.ns + 6) : CW h h1 ∧ FG d c h h1 := by
  have bc := Bc.1
  have kd : ∀ a, a < h.sz → h1.kd a = h.kd a := fun a ha => by rw [k1]; exact (E.2.2.2.2.1 a ha).1
  have ml : ∀ a, a < h.sz → h1.ml a = h.ml a := fun a ha => by rw [l1]; exact (E.2.2.2.2.1 a ha).2.1
  have mi : ∀ a, a < h.sz → a ≠ 200 → (a < d ∨ d + 7 ≤ a) → (a < c ∨ c + 19 ≤ a) → h1.mi a = h.mi a := fun a ha a2 h3 h4 => by
    rw [m1 a a2, cp_o (by omega) (by omega) h3 h4, (E.2.2.2.2.1 a ha).2.2]
    exact mi_sa a2
  have mr : ∀ a f, a < h.sz → a ≠ 200 → (f ≠ 0 ∨ a < d + 3 ∨ d + 7 ≤ a) → h1.mr a f = h.mr a f := fun a f ha a2 hd => by
    rw [r1 a a2]
    exact E.2.2.2.2.2 a f ha hd
  have mrr : ∀ a, a < h.sz → a ≠ 200 → (a < d + 3 ∨ d + 7 ≤ a) → h1.mr a = h.mr a := fun a ha a2 hd => by
    funext f
    exact mr a f ha a2 (Or.inr hd)
  refine ⟨⟨fun a ha => ⟨kd a (by omega), mi a (by omega) (by omega) (by omega) (by omega), mrr a (by omega) (by omega) (by omega)⟩, fun a x y => ⟨kd a (by omega), mrr a (by omega) (by omega) (by omega), mi a (by omega) (by omega) (by omega) (by omega), ml a (by omega)⟩, ?_, ?_⟩, by rw [s1]; exact E.1, kd, mr, fun j hj => ?_, fun a ha a2 _ => mi a ha a2⟩
  · have := E.2.2.2.1
    have z : (h.si 200 1 0).nc = h.nc := rfl
    omega
  · have := E.2.2.1
    have z : (h.si 200 1 0).ns = h.ns := rfl
    omega
  · rw [r2 j hj]
    exact E.2.2.2.2.2 200 j (show 200 < h.sz by omega) (Or.inr (Or.inl (by omega)))
theorem ld_20 (E : EXT d 6 (h.si 200 1 0) h') (hz : 291 ≤ h.sz) (hd : 202 ≤ d) (hc : 216 ≤ c) : (h'.cp (h.sz + 1) h.sz d c F P D R).mi 200 1 = 0 ∧ ∀ j, 3 < j → (h'.cp (h.sz + 1) h.sz d c F P D R).mi 200 j = h.mi 200 j := by
  have e : (h'.cp (h.sz + 1) h.sz d c F P D R).mi 200 = (h.si 200 1 0).mi 200 := by
    rw [cp_o (by omega) (by omega) (by omega) (by omega)]
    exact (E.2.2.2.2.1 200 (show 200 < h.sz by omega)).2.2
  rw [e]
  exact ⟨mi_ss, fun j hj => mi_sk (by omega)⟩
theorem td_mi {M : Mm} {a : Nat} (a2 : a ≠ 200) : (tdN M u d b c).mi a = M.mi a ∧ (tdN M u d b c).mr a = M.mr a := by
  refine ⟨?_, ?_⟩
  · unfold tdN
    rw [mi_sa a2, mi_sa a2, mi_sa a2]
    rfl
  · show zu2 (zu2 (zu2 (zu2 M.mr 200 5 (some d)) 200 6 (some u)) 200 7 (some c)) 200 8 (some b) a = M.mr a
    rw [z2_o a2, z2_o a2, z2_o a2, z2_o a2]
theorem td_20 {M : Mm} : (tdN M u d b c).mi 200 4 = 1 ∧ (tdN M u d b c).mi 200 9 = 0 ∧ (tdN M u d b c).mi 200 11 = 0 ∧ ∀ j, j < 4 → (tdN M u d b c).mi 200 j = M.mi 200 j := by
  unfold tdN
  refine ⟨?_, ?_, mi_ss, fun j hj => ?_⟩
  · rw [mi_sk (by decide), mi_sk (by decide)]
    exact mi_ss
  · rw [mi_sk (by decide)]
    exact mi_ss
  · rw [mi_sk (by omega), mi_sk (by omega), mi_sk (by omega)]
    rfl
theorem td_r {M : Mm} : (tdN M u d b c).mr 200 5 = some d ∧ (tdN M u d b c).mr 200 6 = some u ∧ (tdN M u d b c).mr 200 7 = some c ∧ (tdN M u d b c).mr 200 8 = some b ∧ ∀ j, (j < 5 ∨ 8 < j) → (tdN M u d b c).mr 200 j = M.mr 200 j := by
  have e : (tdN M u d b c).mr = zu2 (zu2 (zu2 (zu2 M.mr 200 5 (some d)) 200 6 (some u)) 200 7 (some c)) 200 8 (some b) := rfl
  rw [e]
  refine ⟨?_, ?_, ?_, z2_s, fun j hj => ?_⟩
  · rw [z2_k (by decide), z2_k (by decide), z2_k (by decide), z2_s]
  · rw [z2_k (by decide), z2_k (by decide), z2_s]
  · rw [z2_k (by decide), z2_s]
  · rw [z2_k (by omega), z2_k (by omega), z2_k (by omega), z2_k (by omega)]
end LDF
theorem st_0 {h0 : Mm} {c sc len : Nat} (Sa : STA h0 sc len) : STP h0 sc len c 312 := by
  intro i tl h hi hI
  obtain ⟨X, u, d, b, cc, v, cap, I⟩ := hI
  have I : IN6 h0 c X u d b cc v cap h := I
  obtain ⟨ks, hl, k2, e4, e21⟩ := in_f I Sa
  have A := I.2.1
  have M := I.2.2.1
  have G := A.1.1
  have U := A.1.2.2.1
  have T := A.1.2.2.2.2.1
  have hm := I.1.1
  have c1 : h.mi 200 1 = Int32.ofNat X.mb := A.2.2.2.1.1
  have m1 : h.mi 277 2 = Int32.ofNat X.mb := M.2.1.1
  by_cases r : 1480 < X.mb
  · obtain ⟨J, -⟩ := in_cm I CQ.rf (Or.inl rfl) (MQw.t (x := 0))
    exact ⟨tl, _, lc_0 hl hi ks ks rfl k2 (mk_277 M.1) (m_130n k2 c1 r hm) (m_131n M.1 m1 r hm), J⟩
  · obtain ⟨B1, g1, cb1⟩ := s_130 (T := X.T) (a := h.mi sc (i + 1)) (b := h.mi sc (i + 2)) (c := h.mi sc (i + 3)) (d := h.mi sc (i + 4)) (e' := h.mi sc (i + 5)) k2 G.2.1 G.2.2.2.2.2.2.2.2.2.2.1 c1 (by omega) A.2.2.2.1.2.1
    have mo : ∀ a, a ≠ 200 → a ≠ 201 → (h.ba B1 (X.mb + 20)).mi a = h.mi a := fun a a1 a2 => (mi_sa a1).trans (mi_swo a2)
    have cw : CW h (h.ba B1 (X.mb + 20)) := ⟨fun a ha => ⟨rfl, mo a (by omega) (by omega), rfl⟩, fun a x y => ⟨rfl, rfl, mo a (by omega) (by omega), rfl⟩, Nat.le_add_right _ _, Nat.le_add_right _ _⟩
    have fg : FG d cc h (h.ba B1 (X.mb + 20)) := ⟨Nat.le_refl _, fun _ _ => rfl, fun _ _ _ _ _ => rfl, fun _ _ => rfl, fun a _ a1 a2 _ _ => mo a a1 a2⟩
    have ej : ∀ j, j ≠ 1 → (h.ba B1 (X.mb + 20)).mi 200 j = h.mi 200 j := fun j hj => (mi_sk hj).trans (congrFun (mi_swo (by decide)) j)
    have ci := CIw_ap (bf := (X.mb + 20, tx20 X.T X.mb (h.mi sc (i + 1)) (h.mi sc (i + 2)) (h.mi sc (i + 3)) (h.mi sc (i + 4)) (h.mi sc (i + 5)))) (er := X.2.1) A fg (fun _ => rfl) ba_n (by rw [ba_p]; exact cb1) ((ej 2 (by decide)).trans A.2.2.2.1.2.2.1) ((ej 3 (by decide)).trans A.2.2.2.1.2.2.2.1) (fun j hj => ej j (by omega))
    obtain ⟨M1, H1, s1, s2, s3, fa, k90⟩ := in_w I Sa cw (Or.inl rfl)
    obtain ⟨B2, g2, cb2⟩ := s_131 (T := X.T) (a := h.mi sc (i + 1)) (b := h.mi sc (i + 2)) (c := h.mi sc (i + 3)) (d := h.mi sc (i + 4)) (e' := h.mi sc (i + 5)) H1 M1.2.1.1 (by omega) M1.2.1.2.1
    have no : ∀ a, a ≠ 277 → a ≠ 278 → (((h.ba B1 (X.mb + 20)).si 277 0 0).bm B2 (X.mb + 20)).mi a = (h.ba B1 (X.mb + 20)).mi a := fun a a1 a2 => ((mi_sa a1).trans (mi_swo a2)).trans (mi_sa a1)
    have nj : ∀ j, j ≠ 0 → j ≠ 2 → (((h.ba B1 (X.mb + 20)).si 277 0 0).bm B2 (X.mb + 20)).mi 277 j = (h.ba B1 (X.mb + 20)).mi 277 j := fun j j0 j2 => ((mi_sk j2).trans (congrFun (mi_swo (by decide)) j)).trans (mi_sk j0)
    have mm : MIw ((X.mb + 20, tx20 X.T X.mb (h.mi sc (i + 1)) (h.mi sc (i + 2)) (h.mi sc (i + 3)) (h.mi sc (i + 4)) (h.mi sc (i + 5))), X.2.1, X.2.2) (((h.ba B1 (X.mb + 20)).si 277 0 0).bm B2 (X.mb + 20)) := by
      obtain ⟨M0, ⟨f1, f2, f3, f4, f5, f6, f7, f8⟩, L, V, Hj, P, L0⟩ := M1
      refine ⟨M0, ⟨bm_n, by rw [bm_p]; exact cb2, (nj 5 (by decide) (by decide)).trans f3, (nj 6 (by decide) (by decide)).trans f4, (nj 21 (by decide) (by decide)).trans f5, (nj 22 (by decide) (by decide)).trans f6, (nj 20 (by decide) (by decide)).trans f7, (nj 26 (by decide) (by decide)).trans f8⟩, ?_, ?_, ?_, ?_, ?_⟩
      · rw [no 279 (by decide) (by decide), no 283 (by decide) (by decide)]
        exact L
      · rw [no 287 (by decide) (by decide)]
        exact V
      · rw [no 286 (by decide) (by decide)]
        exact Hj
      · rw [no 289 (by decide) (by decide)]
        exact P
      · rw [no 279 (by decide) (by decide), no 283 (by decide) (by decide)]
        exact L0
    have xo := xok_s I.1
    obtain ⟨J, j7, j9, jm⟩ := in_ch I cw ci (Or.inl rfl) (((FrM.si (by decide) (by decide)).tr (FrM.sw (by decide) (by decide))).tr (FrM.si (by decide) (by decide))) mm ⟨by show X.mb + 20 ≤ 1500; omega, xo.2⟩
    exact ⟨tl, _, lc_0 hl hi ks s1 s2 k2 s3 g1 g2, J⟩
theorem st_1 {h0 : Mm} {c sc len : Nat} (Sa : STA h0 sc len) (hc : c ≤ 600) : STP h0 sc len c 385 := by
  intro i tl h hi hI
  obtain ⟨X, u, d, b, cc, v, cap, I⟩ := hI
  have I : IN6 h0 c X u d b cc v cap h := I
  obtain ⟨ks, hl, k2, e4, e21⟩ := in_f I Sa
  have A := I.2.1
  have M := I.2.2.1
  have G := A.1.1
  have U := A.1.2.2.1
  have T := A.1.2.2.2.2.1
  have c1 : h.mi 200 1 = Int32.ofNat X.mb := A.2.2.2.1.1
  have m1 : h.mi 277 2 = Int32.ofNat X.mb := M.2.1.1
  have hm := I.1.1
  by_cases r : h.mi sc (i + 1) < 0 ∨ ¬ h.mi sc (i + 1) ≤ h.mi 200 1
  · skip
    obtain ⟨H1, s1, s2, s3, f7, f9, f3, -⟩ := in_g I Sa CQ.thr (Or.inl rfl)
    have g2 := m_129x H1 (by rw [f7, m1, ← c1]; exact rg0_n (n := X.mb) (by omega) r c1)
    obtain ⟨J, j7, j9, jm⟩ := in_cm I CQ.thr (Or.inl rfl) (MQw.t (x := 1))
    obtain ⟨tl', e⟩ := lx_1 (tl := tl) hl hi ks s1 s2 k2 s3 j7 (m_5 jm) z_1 (w_128_x1 k2 (m_226x G r)) g2 mi_ss
    exact ⟨tl', _, e, J⟩
  · skip
    obtain ⟨ei, n, hn, en⟩ := rg0_y (n := X.mb) (i := h.mi sc (i + 1)) (x := h.mi 200 1) (by omega) (fun z => r (Or.inl z)) (Classical.byContradiction fun z => r (Or.inr z)) c1
    rw [c1, en] at ei
    have Z := I.2.2.2.1
    have hz := A.2.1.2.2.2.2.2
    have Bc := A.2.1.2.1
    have bc := Bc.1
    have bcz := Bc.2
    have ud := A.1.2.1
    have tx : TXT h n X.T := ⟨by omega, fun j hj => A.2.2.2.1.2.1 j (by omega)⟩
    have okc := s_226 G A.1.2.2.2.1 A.1.2.2.2.2.2.1 tx (sm_wrd Z Sa.1) hz (by omega) (by omega) Bc.2 (by omega) (by rw [c1, Int32.le_iff_toInt_le, i32_toInt (by omega), i32_toInt (by omega)]; omega)
    rw [← en] at okc
    have mk : ∀ h1 : Mm, CW h h1 → ∃ h2 v, dM PG 129 [.ref 277, .int (h.mi sc (i + 1))] h1 = some (.inl (some (.int v)), h2) ∧ FrM h1 h2 ∧ okL1 h1 h2 (pTx X.T n) v := fun h1 cw => by
      obtain ⟨M1, H1, s1, s2, s3, fa, k90⟩ := in_w I Sa cw (Or.inl rfl)
      rw [en]
      have f7 : h1.mi 277 = h.mi 277 := fa 277 (by decide) (by decide)
      refine s_129 H1 ⟨by omega, fun j hj => M1.2.1.2.1 j (by omega)⟩ (sm_wmd (fun a ha => ?_) Sa.2.2.2.1) (by rw [f7, m1]; exact ei)
      obtain ⟨z1, z2, z3⟩ := Z a ha
      obtain ⟨y1, y2, y3⟩ := cw.1 a ha
      exact ⟨y1.trans z1, y2.trans z2, y3.trans z3⟩
    have xo := xok_s I.1
    cases hp : pTx X.T n with
    | inl er =>
      rw [hp] at okc
      obtain ⟨h', F, P, D, R, g1, E⟩ := okc
      obtain ⟨h1, hh⟩ : ∃ h1, h1 = (((h'.cp (h.sz + 1) h.sz d cc F P D R).si 200 2 (Int32.ofNat er.1)).si 200 3 (Int32.ofNat er.2)).thr := ⟨_, rfl⟩
      rw [← hh] at g1
      obtain ⟨e1, ej⟩ := ld_20 (F := F) (P := P) (D := D) (R := R) E hz (show 202 ≤ d by omega) (show 216 ≤ cc by omega)
      obtain ⟨cw, fg⟩ := ld_gen (h1 := h1) (F := F) (P := P) (D := D) (R := R) E hz (by omega) Bc (by rw [hh]; rfl) (fun a _ => by rw [hh]; rfl) (fun j _ => by rw [hh]; rfl) (fun a a2 => by rw [hh]; exact (mi_sa a2).trans (mi_sa a2)) (by rw [hh]; rfl) (by rw [hh]; rfl) (by rw [hh]; exact Nat.le_refl _) (by rw [hh]; exact Nat.le_refl _)
      have t1 : h1.mi 200 1 = 0 := by rw [hh]; exact ((mi_sk (by decide)).trans (mi_sk (by decide))).trans e1
      have t2 : h1.mi 200 2 = Int32.ofNat er.1 := by rw [hh]; exact (mi_sk (by decide)).trans mi_ss
      have t3 : h1.mi 200 3 = Int32.ofNat er.2 := by rw [hh]; exact mi_ss (h := (h'.cp (h.sz + 1) h.sz d cc F P D R).si 200 2 (Int32.ofNat er.1))
      have tj : ∀ j, 3 < j → h1.mi 200 j = h.mi 200 j := fun j hj => by rw [hh]; exact ((mi_sk (by omega)).trans (mi_sk (by omega))).trans (ej j hj)
      have f5 : ∀ j, h1.mr 200 j = h.mr 200 j := fun j => by
        rw [hh]
        exact E.2.2.2.2.2 200 j (show 200 < h.sz by omega) (Or.inr (Or.inl (by omega)))
      have ci := CIw_ap (bf := (0, X.T)) (er := (Int32.ofNat er.1, Int32.ofNat er.2)) A fg f5 t1 (fun j hj => absurd hj (Nat.not_lt_zero _)) t2 t3 tj
      obtain ⟨h2, vv, g2, fr, ok⟩ := mk h1 cw
      rw [hp] at ok
      obtain ⟨-, ⟨o0, o2, o5, o6, oj⟩, oa, ol⟩ := ok
      obtain ⟨M1, H1, s1, s2, s3, fa, k90⟩ := in_w I Sa cw (Or.inl rfl)
      have mm : MIw ((0, X.T), (Int32.ofNat er.1, Int32.ofNat er.2), X.2.2) h2 := by
        obtain ⟨M0, ⟨f1, f2, f3, f4, f5, f6, f7, f8⟩, L, V, Hj, P, L0⟩ := M1
        refine ⟨MO_fr fr M0, ⟨o2, fun j hj => absurd hj (Nat.not_lt_zero _), o5, o6, (oj 21 (by decide) (by decide)).trans f5, (oj 22 (by decide) (by decide)).trans f6, (oj 20 (by decide) (by decide)).trans f7, (oj 26 (by decide) (by decide)).trans f8⟩, ?_, ?_, ?_, ?_, ?_⟩
        · rw [oa 279 (by decide) (by decide) (by decide), oa 283 (by decide) (by decide) (by decide), ol]
          exact L
        · rw [oa 287 (by decide) (by decide) (by decide)]
          exact V
        · rw [oa 286 (by decide) (by decide) (by decide)]
          exact Hj
        · rw [oa 289 (by decide) (by decide) (by decide)]
          exact P
        · rw [oa 279 (by decide) (by decide) (by decide), oa 283 (by decide) (by decide) (by decide)]
          exact L0
      obtain ⟨J, j7, j9, jm⟩ := in_ch I cw ci (Or.inl rfl) fr mm ⟨Nat.zero_le _, xo.2⟩
      obtain ⟨tl', e⟩ := lx_1 (tl := tl) hl hi ks s1 s2 k2 s3 j7 (m_5 jm) two_0 (w_128_x2 k2 g1) g2 o0
      exact ⟨tl', _, e, J⟩
    | inr q =>
      rw [hp] at okc
      obtain ⟨h', F, P, D, R, g1, E, KQq⟩ := okc
      obtain ⟨h1, hh⟩ : ∃ h1, h1 = tdN (((h'.cp (h.sz + 1) h.sz d cc F P D R).si 200 2 0).si 200 3 (-1)) u d b cc := ⟨_, rfl⟩
      rw [← hh] at g1
      obtain ⟨e1, ej⟩ := ld_20 (F := F) (P := P) (D := D) (R := R) E hz (show 202 ≤ d by omega) (show 216 ≤ cc by omega)
      have mio : ∀ a, a ≠ 200 → h1.mi a = (h'.cp (h.sz + 1) h.sz d cc F P D R).mi a := fun a a2 => by rw [hh, (td_mi a2).1]; exact (mi_sa a2).trans (mi_sa a2)
      have mro : ∀ a, a ≠ 200 → h1.mr a = h'.mr a := fun a a2 => by rw [hh]; exact (td_mi a2).2
      obtain ⟨tr5, tr6, tr7, tr8, trj⟩ := td_r (M := ((h'.cp (h.sz + 1) h.sz d cc F P D R).si 200 2 0).si 200 3 (-1)) (u := u) (d := d) (b := b) (c := cc)
      obtain ⟨ti4, ti9, ti11, tij⟩ := td_20 (M := ((h'.cp (h.sz + 1) h.sz d cc F P D R).si 200 2 0).si 200 3 (-1)) (u := u) (d := d) (b := b) (c := cc)
      rw [← hh] at tr5 tr6 tr7 tr8 trj ti4 ti9 ti11 tij
      obtain ⟨cw, fg⟩ := ld_gen (h1 := h1) (F := F) (P := P) (D := D) (R := R) E hz (by omega) Bc (by rw [hh]; rfl) mro (fun j hj => trj j hj) mio (by rw [hh]; rfl) (by rw [hh]; rfl) (by rw [hh]; exact Nat.le_add_right _ _) (by rw [hh]; exact Nat.le_add_right _ _)
      have kdo : h1.kd = h'.kd := by rw [hh]; rfl
      have t1 : h1.mi 200 1 = 0 := by rw [tij 1 (by decide)]; exact ((mi_sk (by decide)).trans (mi_sk (by decide))).trans e1
      have t2 : h1.mi 200 2 = 0 := by rw [tij 2 (by decide)]; exact (mi_sk (by decide)).trans mi_ss
      have t3 : h1.mi 200 3 = -1 := by rw [tij 3 (by decide)]; exact mi_ss
      have JJ : DJ (h.sz + 1) h.sz d cc := ⟨by omega, by omega, by omega, by omega, by omega, by omega⟩
      have rowD : ∀ o, o < 7 → rowsAt h1 d o = D o := fun o ho => (mio (d + o) (by omega)).trans (cp_D JJ ho)
      have rowR : ∀ o, o < 19 → rowsAt h1 cc o = R o := fun o ho => (mio (cc + o) (by omega)).trans (cp_R JJ ho)
      obtain ⟨vv, hv⟩ : ∃ vv, vv = Int32.ofNat q.ni := ⟨_, rfl⟩
      rw [← hv] at g1
      have cw2 : CW h (h1.sl 290 0 vv.toInt64) → True := fun _ => trivial
      obtain ⟨M1, H1, s1, s2, s3, fa, k90⟩ := in_w I Sa cw (Or.inr ⟨vv.toInt64, rfl⟩)
      obtain ⟨h1', hh1⟩ : ∃ h1', h1' = h1.sl 290 0 vv.toInt64 := ⟨_, rfl⟩
      rw [← hh1] at M1 H1 s1 s2 s3 fa
      have f7 : h1'.mi 277 = h.mi 277 := fa 277 (by decide) (by decide)
      have sm1 : SM h0 h1' := fun a ha => by
        obtain ⟨z1, z2, z3⟩ := Z a ha
        obtain ⟨y1, y2, y3⟩ := cw.1 a ha
        rw [hh1]
        exact ⟨y1.trans z1, y2.trans z2, y3.trans z3⟩
      obtain ⟨h2, v2, g2, fr, ok⟩ := s_129 (T := X.T) (n := n) H1 ⟨by omega, fun j hj => M1.2.1.2.1 j (by omega)⟩ (sm_wmd sm1 Sa.2.2.2.1) (by rw [f7, m1]; exact ei)
      rw [hp] at ok
      obtain ⟨ov, ⟨o0, o2, o5, o6, o20, o21, o22, o26⟩, oa, ii, oP, oS, oN⟩ := ok
      rw [ov, ← hv, ← en] at g2
      obtain ⟨pg, ns1⟩ := pG_tx hp
      obtain ⟨⟨cA, cB, cI, cC, -⟩, nms⟩ := KQq
      obtain ⟨du, Pl, pdu⟩ := ld_pl (P := h2.mi 279) pg ns1 cA oP
      have Rl : RS q.ns du q.ni 0 R (h2.mi 283) := ld_rs pg ns1 ii.2.2.2.2.2 cB cI cC oS
      have nmc : NMc h1 d q.ns q.nm := fun k hk => by
        obtain ⟨p, qq, y1, y2, y3, y4, y5, y6⟩ := nms k hk
        have kk : h'.kd 200 = some (.inl 7) := ((E.2.2.2.2.1 200 (show 200 < h.sz by omega)).1).trans k2
        have np : p ≠ 200 ∧ qq ≠ 200 := nm_ne (m := 0) y2 (Or.inr (Or.inr (Or.inr kk)))
        have q4 : q.ns ≤ 4 := ii.2.1
        have sz1 : h1.sz = h'.sz := by rw [hh]; rfl
        exact ⟨(oN k hk).2, p, qq, by rw [mro _ (by omega)]; exact y1, str_fr y2 (by rw [kdo]) (by rw [kdo]) (mro p np.1) ((mio p np.1).trans (cp_o y3.1 y3.2.1 y3.2.2.1 y3.2.2.2)) ((mio qq np.2).trans (cp_o y4.1 y4.2.1 y4.2.2.1 y4.2.2.2)), by omega, by omega⟩
      have ci := CIw_ld (bf := (0, X.T)) (er := (0, -1)) (pp := ((q.ns, q.st, du), h2.mi 279, q.nm)) (cu := (q.ni, 0, h2.mi 283)) (sd := X.sd) (hi := X.hi) A fg tr5 tr6 tr7 tr8 t1 (fun j hj => absurd hj (Nat.not_lt_zero _)) t2 t3 ti4 ti9 ti11 (PlR_of rowD Pl) (RS_of Rl (fun o j hj => by
        by_cases c : o < 19
        · rw [rowR o c]
        · rw [lims_19 (by omega)] at hj
          exact absurd hj (Nat.not_lt_zero _)) (fun _ _ => rfl)) nmc
      have mm : MIw ((0, X.T), ((0 : Int32), (-1 : Int32)), (true, false, 0), ((q.ns, q.st, du), h2.mi 279, q.nm), (q.ni, 0, h2.mi 283), X.sd, X.hi, X.tx) h2 := by
        obtain ⟨M0, ⟨f1, f2, f3, f4, f5, f6, f7, f8⟩, L, V, Hj, P, L0⟩ := M1
        refine ⟨MO_fr fr M0, ⟨o2, fun j hj => absurd hj (Nat.not_lt_zero _), o5, o6, o21, o22, o20, o26.trans f8⟩, fun _ => ⟨rfl, rfl, oN⟩, fun z => ?_, fun j hj => absurd hj (Nat.not_lt_zero _), ?_, fun z => ?_⟩
        · cases (show false = true from z)
        · rw [oa 289 (by decide) (by decide) (by decide) (by decide) (by decide)]
          exact P
        · cases (show true = false from z)
      have qlq : QL (1000000 * (c + 1 + 1)) q.ns (h2.mi 283) := by
        obtain ⟨i1, pc1, n1, q1, E1, -⟩ := Rl
        refine (ql_r ii.2.1 E1).mpr (fun k hk => ?_)
        obtain ⟨t, t1, t2⟩ := (pQ_tx hp).2 k hk
        exact ⟨t, 0, (cB.2 k hk).2.trans t2, (cC.2.2.2.2.2.1 k (by have := ii.2.1; omega)).1, Nat.zero_le _, by omega⟩
      obtain ⟨J, j7, j9, jm⟩ := in_ch I cw ci (Or.inr ⟨vv.toInt64, hh1⟩) fr mm ⟨Nat.zero_le _, Nat.zero_le _, fun z => (by cases (show true = false from z)), Nat.zero_le _, xo.2.2.2.2.1, fun j hj => absurd hj (Nat.not_lt_zero _), xo.2.2.2.2.2.2.1, fun _ => qlq, fun z => (by cases (show false = true from z)), fun j hj => absurd hj (Nat.not_lt_zero _)⟩
      have lml : h2.ml 290 0 = vv.toInt64 := by
        rw [(fr.2.2.2 290 (by decide)).2, hh1]
        exact sl_ml
      subst hh1
      obtain ⟨tl', e⟩ := lv_1 (tl := tl) hl hi ks s1 s2 k2 s3 j7 (m_5 jm) j9 (w_128 k2 k90 g1) g2 o0 lml
      exact ⟨tl', _, e, J⟩
