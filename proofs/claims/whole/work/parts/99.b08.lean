-- ===== handling, with the machine =====
section HN
variable {ns m tm st : Nat} {du : Nat} {R D : Nat → Nat → Int32} {S pl : Nat → Int32}
theorem hn_ok (Q : PlR ns st du D pl) (Z : RS ns du m tm R S) : RS ns du m tm (hnC D R) (hnM pl S) ∧ (∀ (h : Mm) (b u : Nat), u + 7 ≤ b → ST h b → SU h u → (∀ o, o < 7 → h.mi (u + o) = D o) → dM PG 320 [.ref b, .ref u] (h.sb b R) = some (.inl none, h.sb b (hnC D R))) ∧ ∀ (h : Mm) (s : Nat), MO h → s ≠ 279 → h.kd s = some (.inr (.int, 1168)) → h.mi 279 = pl → dM PG 278 [.ref 277, .ref s] (h.sw s S) = some (.inl none, h.sw s (hnM pl S)) := by
  obtain ⟨i, pc, n, q, E, A, J⟩ := Z
  have A0 := A
  have E0 := E
  obtain ⟨⟨⟨a0, a5, a7, a71, a13, a131⟩, n1, n2, n3, n4, n5, n6, n7⟩, T, C, I, V, P, B⟩ := A
  obtain ⟨⟨s0, s1, s2, s3, s4, s7, s5, s9, s8⟩, eP, eT, eL, eC, eI, eV, eB⟩ := E
  obtain ⟨⟨p1, p2⟩, ⟨d8, p16, d11, p7, q4, q5, q6⟩, ps, pk, ⟨p6, q7⟩, -, -, ⟨rm, r1, r2⟩⟩ := Q
  have c71 : cN (R 7 1) = i := by rw [a71]; exact cN_of (by omega)
  have c70 : cN (R 7 0) = m := by rw [a7]; exact cN_of (by omega)
  have c13 : cN (R 13 0) = n := by rw [a13]; exact cN_of (by omega)
  have c05 : cN (R 0 5) = pc := by rw [a5]; exact cN_of (by omega)
  have cS5 : cN (S 5) = i := by rw [s5]; exact c71
  have cS9 : cN (S 9) = m := by rw [s9]; exact c70
  have cS8 : cN (S 8) = n := by rw [s8]; exact c13
  have cS7 : cN (S 7) = pc := by rw [s7]; exact c05
  have hS5 : S 5 = Int32.ofNat i := s5.trans a71
  have hS9 : S 9 = Int32.ofNat m := s9.trans a7
  have hS8 : S 8 = Int32.ofNat n := s8.trans a13
  have hS7 : S 7 = Int32.ofNat pc := s7.trans a5
  by_cases hi : i < m
  · have hnp : ∀ j, j < pc → R 1 j ≠ Int32.ofNat i := fun j hj e => by
      obtain ⟨y, k', y1, y2, y3, -⟩ := P.1 j hj
      rw [y3] at e
      exact i32_ne (by omega) (by omega) (by omega) e
    obtain ⟨⟨cw, w1, w2⟩, sp, fb, fr⟩ := I i hi
    have f0 := fr (Nat.le_refl i)
    have b0 : R 11 i = -1 := by
      rcases fb with ⟨-, z⟩ | z | z
      · exact z
      · rw [f0] at z; exact absurd z (by decide)
      · rw [f0] at z; exact absurd z (by decide)
    obtain ⟨ei1, ei2, ei3, ei4⟩ := eI i hi
    have Ea := ha_eq E0 (by omega) (by omega) (by omega) (by omega)
    have Aq := gh_q A0 hi
    rcases sp with e9 | ⟨k, hk, e9⟩
    · -- rejected
      have eC' : hnC D R = zu2 (ghA R) 10 i 1 := by
        unfold hnC
        rw [c71, c70, if_pos hi, if_pos e9]
      have eM : hnM pl S = hdR S i := by
        unfold hnM
        rw [cS5, cS9, if_pos hi, if_pos (ei2.trans e9)]
      rw [eC', eM]
      refine ⟨⟨i + 1, pc, n, q, ?_, ?_, ?_⟩, fun h b u hub Tb Uu hD => ?_, fun h s H h279 hk hp => ?_⟩
      · exact eq_6 (ft_eq Ea (by omega) (by omega) (by omega) (by omega) (by omega)) (by omega) (by omega) (by omega) (by omega)
      · exact qv_iv Aq (Or.inl rfl) (by omega) (by rw [ghA_r (by decide)]; exact b0) (by rw [ghA_r (by decide)]; exact hnp)
      · unfold EqJ hdR
        rw [zu_same, zu_o (by omega), hdA_o (by decide), J]
        have g10 : ghA R 10 = R 10 := ghA_r (by decide)
        have := ft_up (R := ghA R) (x := i) (by rw [g10, f0]; decide) m 0 0 (Nat.zero_le _) (by omega)
        rw [this]
        congr 1
      · exact m_320b hi n2 Tb a71 a7 e9
      · have g := m_278b (s := s) (h := h.sw s S) hi n2 hk (by rw [mi_sw]; exact hS5) (by rw [mi_sw]; exact hS9) (by rw [mi_sw]; exact ei2.trans e9)
        rw [mi_sw, sw_sw] at g
        exact g
    · have hk4 : k < 4 := by omega
      have ck : cN (R 9 i) = k := by rw [e9]; exact cN_of (by omega)
      have nk : ¬ R 9 i = -1 := by rw [e9]; exact oN_s (by omega)
      have eS9 : S (288 + i) = Int32.ofNat k := ei2.trans e9
      have ckS : cN (S (288 + i)) = k := by rw [eS9]; exact cN_of (by omega)
      have nkS : ¬ S (288 + i) = -1 := by rw [eS9]; exact oN_s (by omega)
      have hv : hdA S (18 + k) + hdA S (208 + i) = R 4 k + R 8 i := by
        rw [hdA_o (by omega), hdA_o (by omega), (eL k hk4).1, ei1]
      have hq : hdA S (14 + k) = R 3 k := by rw [hdA_o (by omega), (eT k hk).2]
      have hcond : (hdA S (18 + k) + hdA S (208 + i) ≤ hdA S (14 + k)) ↔ (R 4 k + R 8 i ≤ R 3 k) := by rw [hv, hq]
      obtain ⟨pk1, pk2, ⟨nb, nb1, nb2, nb3⟩, -⟩ := pk k hk
      by_cases c : R 4 k + R 8 i ≤ R 3 k
      · have EL : EqR ns m pc n (Int32.ofNat du) (ghL R k i) (hdL S k i) := by
          have := (lk_eq (v := R 4 k + R 8 i) (k := k) Ea hk4 (by omega) (by omega) (by omega) (by omega)).1
          unfold ghL hdL
          rw [hv]
          exact this
        have gL : ∀ o, o ≠ 4 → o ≠ 7 → ghL R k i o = R o := fun o h4 h7 => by
          unfold ghL
          rw [z2_o h4, ghA_r h7]
        have AL : IvQ ns m (i + 1) pc n q tm (ghL R k i) := IvQ_c Aq (fun o _ h4 _ => by
          unfold ghL
          exact z2_o h4)
        obtain ⟨l, l1, l2⟩ := T.1
        obtain ⟨t, t1, t2, t3⟩ := T.2 k hk
        have IC : IvC 80 (ghL R k i) := IvC_80 (x := i - pc) (by omega) (IvC_c (gL 6 (by decide) (by decide)) C)
        have pe : placeF (hdL S k i) pl k i nb = gchF (ghL R k i) k (R 8 i) (D 0 2) nb := by
          refine pl_eq (cw := cw) (t := t) (l := l) hk4 ⟨nb1, nb2⟩ ?_ w2 ?_ ?_ ?_ ?_ EL.1.2.1 EL.1.2.2.2.2.2.1 (p1 2 (by decide)).symm w1 t2 l1 EL.2.2.2.2.1 IC
          · rw [(EL.2.2.2.2.2.1 i hi).1, gL 8 (by decide) (by decide), w2]
          · rw [(EL.2.2.1 k hk).1, gL 2 (by decide) (by decide), t3]
          · rw [gL 2 (by decide) (by decide), t3]
          · rw [EL.1.2.2.1, gL 0 (by decide) (by decide), l2]
          · rw [gL 0 (by decide) (by decide), l2]
        have cnb : cN (D (3 + k) 1) = nb := by rw [pk1, nb3]; exact cN_of (by omega)
        have cnb2 : cN (pl (8 + k)) = nb := by rw [nb3]; exact cN_of (by omega)
        have b0' : ghL R k i 11 i = -1 := by rw [gL 11 (by decide) (by decide)]; exact b0
        have hnp' : ∀ j, j < pc → ghL R k i 1 j ≠ Int32.ofNat i := by rw [gL 1 (by decide) (by decide)]; exact hnp
        have h9' : ghL R k i 9 i = Int32.ofNat k := by rw [gL 9 (by decide) (by decide)]; exact e9
        have h50 : ghL R k i 0 5 = Int32.ofNat pc := by rw [gL 0 (by decide) (by decide)]; exact a5
        have J0 : EqJ m (ghL R k i) (hdL S k i) := by
          refine EqJ_c J ?_ (fun j hj => by rw [gL 10 (by decide) (by decide)])
          unfold hdL
          rw [zu_o (by omega), hdA_o (by decide)]
        cases eg : gchF (ghL R k i) k (R 8 i) (D 0 2) nb with
        | none =>
          have hpc : pc < 10 := by
            have := pl_none (pe.trans eg)
            rw [EL.1.2.2.2.2.2.1, h50, r2, i32_lt (by omega) (by omega)] at this
            omega
          have eC' : hnC D R = gpoA (ghL R k i) i pc := by
            unfold hnC
            rw [c71, c70, if_pos hi, if_neg nk, ck, if_pos c, cnb, eg, c05]
          have eM : hnM pl S = hdP S k i pc := by
            unfold hnM
            rw [cS5, cS9, if_pos hi, if_neg nkS, ckS, if_pos (hcond.mpr c), cnb2, pe, eg, cS7]
          rw [eC', eM]
          refine ⟨⟨i + 1, pc + 1, n, q, ?_, ?_, ?_⟩, fun h b u hub Tb Uu hD => ?_, fun h s H h279 hks hp => ?_⟩
          · exact po_eq EL h50 (by omega) (by omega) (by omega) hpc (by omega)
          · exact po_iv AL hpc (by omega) b0' hk h9' hnp'
          · refine EqJ_c J0 ?_ (fun j hj => ?_)
            · unfold hdP hdP4 hdP3
              simp (disch := omega) only [zu_same, zu_o, z2_s, z2_ne]
            · by_cases cj : j = i
              · subst cj
                have : gpoA (ghL R k j) j pc 10 j = 3 := by
                  unfold gpoA
                  simp (disch := omega) only [zu_same, zu_o, z2_s, z2_ne]
                rw [this, gL 10 (by decide) (by decide), f0]
                exact ⟨fun z => absurd z (by decide), fun z => absurd z (by decide)⟩
              · have : gpoA (ghL R k i) i pc 10 j = ghL R k i 10 j := by
                  unfold gpoA
                  simp (disch := omega) only [zu_same, zu_o, z2_s, z2_ne]
                rw [this]
          · refine m_320d hub hi n2 hk4 nb2 hpc Tb Uu ?_ a71 a7 e9 c a5 ?_
            · rw [show u + 3 + k = u + (3 + k) by omega, hD (3 + k) (by omega), pk1, nb3]
            · have : h.mi u 2 = D 0 2 := by
                have := hD 0 (by decide)
                rw [Nat.add_zero] at this
                rw [this]
              rw [this]
              exact eg
          · have g := m_278d (s := s) (h := h.sw s S) hi n2 hk4 nb2 hpc H h279 hks (by rw [mi_sw]; exact hS5) (by rw [mi_sw]; exact hS9) (by rw [mi_sw]; exact hS7) (by rw [mi_sw]; exact eS9) (by rw [mi_swo (Ne.symm h279), hp]; exact nb3) (by rw [mi_sw]; exact hcond.mpr c) (by rw [mi_sw, mi_swo (Ne.symm h279), hp]; exact pe.trans eg)
            rw [mi_sw, sw_sw] at g
            exact g
        | some p =>
          have hp3 : p < 3 := by
            have := pl_lt (R := ghL R k i) (D := D) (k := k) (x := i) nb2 p
            rw [gL 8 (by decide) (by decide)] at this
            exact this eg
          have EP := put_eq (x := i) (k := k) (p := p) EL hi hk4 hp3 (by omega) (by omega) (by omega) (by omega)
          have AP := put_iv (x := i) (k := k) (p := p) AL (by omega) hk4 hp3 hnp'
          have JP := put_J (x := i) (k := k) (p := p) J0 hp3 hk4 (by omega) (by rw [gL 10 (by decide) (by decide), f0]; decide)
          have cEq : (putA (hdL S k i) k p i (26 + 3 * k + p) < putA (hdL S k i) k p i (10 + k)) ↔ (gpA (ghL R k i) k p i 6 (k * 3 + p) < gpA (ghL R k i) k p i 2 k) := by
            rw [EP.2.2.2.2.1 k p hk4 hp3, (EP.2.2.1 k hk).1]
          have p13 : gpA (ghL R k i) k p i 13 0 = Int32.ofNat n := AP.1.1.2.2.2.2.1
          have p70 : gpA (ghL R k i) k p i 7 0 = Int32.ofNat m := AP.1.1.2.2.1
          by_cases cc : gpA (ghL R k i) k p i 6 (k * 3 + p) < gpA (ghL R k i) k p i 2 k
          · have eC' : hnC D R = gpA (ghL R k i) k p i := by
              unfold hnC
              rw [c71, c70, if_pos hi, if_neg nk, ck, if_pos c, cnb, eg]
              exact if_pos cc
            have eM : hnM pl S = putA (hdL S k i) k p i := by
              unfold hnM
              rw [cS5, cS9, if_pos hi, if_neg nkS, ckS, if_pos (hcond.mpr c), cnb2, pe, eg, cS8]
              exact if_pos (cEq.mpr cc)
            have ePF : putF (pl 6) (hdL S k i) k p i n m = putA (hdL S k i) k p i := if_pos (cEq.mpr cc)
            rw [eC', eM]
            refine ⟨⟨i + 1, pc, n, q, EP, AP, JP⟩, fun h b u hub Tb Uu hD => ?_, fun h s H h279 hks hp => ?_⟩
            · refine m_320e (x := 0) hub hi n2 hk4 nb2 hp3 Tb Uu ?_ a71 a7 e9 c ?_ (m_264n hk4 hp3 Tb cc)
              · rw [show u + 3 + k = u + (3 + k) by omega, hD (3 + k) (by omega), pk1, nb3]
              · have : h.mi u 2 = D 0 2 := by
                  have := hD 0 (by decide)
                  rw [Nat.add_zero] at this
                  rw [this]
                rw [this]
                exact eg
            · have g := m_278e (s := s) (n := n) (h := h.sw s S) hi n2 (by omega) hk4 nb2 hp3 H h279 hks (by rw [mi_sw]; exact hS5) (by rw [mi_sw]; exact hS9) (by rw [mi_sw]; exact hS8) (by rw [mi_sw]; exact eS9) (by rw [mi_swo (Ne.symm h279), hp]; exact nb3) (by rw [mi_sw]; exact hcond.mpr c) (by rw [mi_sw, mi_swo (Ne.symm h279), hp]; exact pe.trans eg)
              rw [mi_sw, sw_sw, mi_swo (Ne.symm h279), hp, ePF] at g
              exact g
          · have eC' : hnC D R = gclA (gpA (ghL R k i) k p i) k p n m := by
              unfold hnC
              rw [c71, c70, if_pos hi, if_neg nk, ck, if_pos c, cnb, eg, c13]
              exact if_neg cc
            have eM : hnM pl S = closeF (Int32.ofNat du) (putA (hdL S k i) k p i) k p n m := by
              unfold hnM
              rw [cS5, cS9, if_pos hi, if_neg nkS, ckS, if_pos (hcond.mpr c), cnb2, pe, eg, cS8, p6]
              exact if_neg (fun z => cc (cEq.mp z))
            have ePF : putF (Int32.ofNat du) (hdL S k i) k p i n m = closeF (Int32.ofNat du) (putA (hdL S k i) k p i) k p n m := if_neg (fun z => cc (cEq.mp z))
            rw [eC', eM]
            refine ⟨⟨i + 1, pc, n + 1, q, ?_, ?_, ?_⟩, fun h b u hub Tb Uu hD => ?_, fun h s H h279 hks hp => ?_⟩
            · exact cl_eq EP p13 hk hp3 (by omega) (by omega) (by omega) (by omega)
            · exact cl_iv AP (by omega) hk hp3 cc
            · exact cl_J JP EP hk4 hp3 (by omega) (by omega)
            · refine m_320e (x := 1) hub hi n2 hk4 nb2 hp3 Tb Uu ?_ a71 a7 e9 c ?_ (m_264y hk4 hp3 (by omega) n2 Tb p13 p70 cc)
              · rw [show u + 3 + k = u + (3 + k) by omega, hD (3 + k) (by omega), pk1, nb3]
              · have : h.mi u 2 = D 0 2 := by
                  have := hD 0 (by decide)
                  rw [Nat.add_zero] at this
                  rw [this]
                rw [this]
                exact eg
            · have g := m_278e (s := s) (n := n) (h := h.sw s S) hi n2 (by omega) hk4 nb2 hp3 H h279 hks (by rw [mi_sw]; exact hS5) (by rw [mi_sw]; exact hS9) (by rw [mi_sw]; exact hS8) (by rw [mi_sw]; exact eS9) (by rw [mi_swo (Ne.symm h279), hp]; exact nb3) (by rw [mi_sw]; exact hcond.mpr c) (by rw [mi_sw, mi_swo (Ne.symm h279), hp]; exact pe.trans eg)
              rw [mi_sw, sw_sw, mi_swo (Ne.symm h279), hp, p6, ePF] at g
              exact g
      · -- discarded
        have eC' : hnC D R = zu2 (zu2 (ghA R) 10 i 2) 5 k (R 5 k + R 8 i) := by
          unfold hnC
          rw [c71, c70, if_pos hi, if_neg nk, ck, if_neg c]
        have eM : hnM pl S = hdD S k i := by
          unfold hnM
          rw [cS5, cS9, if_pos hi, if_neg nkS, ckS, if_neg (fun z => c (hcond.mp z))]
        have ev : zu (hdA S) (48 + i) 2 (22 + k) + zu (hdA S) (48 + i) 2 (208 + i) = R 5 k + R 8 i := by
          rw [zu_o (by omega), zu_o (by omega), hdA_o (by omega), hdA_o (by omega), (eL k hk4).2, ei1]
        rw [eC', eM]
        refine ⟨⟨i + 1, pc, n, q, ?_, ?_, ?_⟩, fun h b u hub Tb Uu hD => ?_, fun h s H h279 hks hp => ?_⟩
        · unfold hdD
          rw [ev]
          exact (lk_eq (ft_eq Ea (by omega) (by omega) (by omega) (by omega) (by omega)) hk4 (by omega) (by omega) (by omega) (by omega)).2
        · refine IvR_c (qv_iv (x := i) (v := 2) Aq (Or.inr rfl) (by omega) (by rw [ghA_r (by decide)]; exact b0) (by rw [ghA_r (by decide)]; exact hnp)) (fun o _ _ h5 => z2_o h5)
        · refine EqJ_c J ?_ (fun j hj => ?_)
          · unfold hdD
            rw [zu_o (by omega), zu_o (by omega), hdA_o (by decide)]
          · rw [z2_o (by decide)]
            by_cases cj : j = i
            · subst cj
              rw [z2_s, f0]
              exact ⟨fun z => absurd z (by decide), fun z => absurd z (by decide)⟩
            · rw [z2_ne (by omega), ghA_r (by decide)]
        · exact m_320c hi n2 hk4 Tb a71 a7 e9 c
        · have g := m_278c (s := s) (h := h.sw s S) hi n2 hk4 hks (by rw [mi_sw]; exact hS5) (by rw [mi_sw]; exact hS9) (by rw [mi_sw]; exact eS9) (by rw [mi_sw]; exact fun z => c (hcond.mp z))
          rw [mi_sw, sw_sw] at g
          exact g
  · have eC' : hnC D R = R := by
      unfold hnC
      rw [c71, c70, if_neg hi]
    have eM : hnM pl S = S := by
      unfold hnM
      rw [cS5, cS9, if_neg hi]
    rw [eC', eM]
    refine ⟨⟨i, pc, n, q, E0, A0, J⟩, fun h b u hub Tb Uu hD => ?_, fun h s H h279 hks hp => ?_⟩
    · exact m_320a hi (by omega) n2 Tb a71 a7
    · exact m_278a (s := s) (h := h.sw s S) (i := i) hks (by rw [mi_sw]; exact hS5) (by rw [mi_sw, hS9, show m = i by omega])
end HN
