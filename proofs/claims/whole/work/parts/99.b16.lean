-- ===== a new item =====
section AD
variable {ns m i pc n q tm : Nat} {du : Nat} {R : Nat → Nat → Int32} {S pl : Nat → Int32} {k : Nat} {w v mg sp : Int32}
theorem ai_eq : aiF S pl m ns w sp v = zu (zu (zu (zu (zu (zu (zu (zu (zu S (208 + m) w) (368 + 4 * m + 0) (if Int32.ofNat 0 = sp then v else 0)) (368 + 4 * m + 1) (if Int32.ofNat 1 = sp then v else 0)) (368 + 4 * m + 2) (if Int32.ofNat 2 = sp then v else 0)) (368 + 4 * m + 3) (if Int32.ofNat 3 = sp then v else 0)) (288 + m) (kbF (aiA S m w sp v) pl m ns)) (48 + m) 0) (128 + m) (-1)) 9 (aiC S pl m ns w sp v 9 + 1) := rfl
theorem ai_A : aiA S m w sp v = zu (zu (zu (zu (zu S (208 + m) w) (368 + 4 * m + 0) (if Int32.ofNat 0 = sp then v else 0)) (368 + 4 * m + 1) (if Int32.ofNat 1 = sp then v else 0)) (368 + 4 * m + 2) (if Int32.ofNat 2 = sp then v else 0)) (368 + 4 * m + 3) (if Int32.ofNat 3 = sp then v else 0) := rfl
theorem ai_9 (hm : m < 80) : aiC S pl m ns w sp v 9 = S 9 := by
  show zu (zu (zu (aiA S m w sp v) (288 + m) (kbF (aiA S m w sp v) pl m ns)) (48 + m) 0) (128 + m) (-1) 9 = S 9
  rw [ai_A]
  simp (disch := omega) only [zu_same, zu_o, z2_s, z2_ne]
theorem ai_o {a : Nat} (h9 : a ≠ 9) (h1 : a ≠ 208 + m) (h2 : a ≠ 288 + m) (h3 : a ≠ 48 + m) (h4 : a ≠ 128 + m) (h5 : a < 368 + 4 * m ∨ 372 + 4 * m ≤ a) : aiF S pl m ns w sp v a = S a := by
  rw [ai_eq]
  rw [zu_o h9, zu_o h4, zu_o h3, zu_o h2, zu_o (by omega), zu_o (by omega), zu_o (by omega), zu_o (by omega), zu_o h1]
theorem ai_sc {k' : Nat} (hk : k < 4) (hk' : k' < 4) (hm : m < 80) : aiA S m w (Int32.ofNat k) v (368 + 4 * m + k') = (if k' = k then v else 0) ∧ aiF S pl m ns w (Int32.ofNat k) v (368 + 4 * m + k') = (if k' = k then v else 0) := by
  have e : ∀ y, y < 4 → (if Int32.ofNat y = Int32.ofNat k then v else 0) = (if y = k then v else 0) := fun y hy => by
    by_cases c : y = k
    · rw [if_pos c, if_pos (by rw [c])]
    · rw [if_neg c, if_neg (i32_ne (by omega) (by omega) c)]
  have a1 : aiA S m w (Int32.ofNat k) v (368 + 4 * m + k') = (if k' = k then v else 0) := by
    rw [ai_A, ← e k' hk']
    have : k' = 0 ∨ k' = 1 ∨ k' = 2 ∨ k' = 3 := by omega
    rcases this with rfl | rfl | rfl | rfl
    · simp (disch := omega) only [zu_same, zu_o, z2_s, z2_ne]
    · simp (disch := omega) only [zu_same, zu_o, z2_s, z2_ne]
    · simp (disch := omega) only [zu_same, zu_o, z2_s, z2_ne]
    · simp (disch := omega) only [zu_same, zu_o, z2_s, z2_ne]
  refine ⟨a1, ?_⟩
  rw [← a1]
  show zu (zu (zu (zu (aiA S m w (Int32.ofNat k) v) (288 + m) _) (48 + m) 0) (128 + m) (-1)) 9 _ (368 + 4 * m + k') = _
  rw [zu_o (by omega), zu_o (by omega), zu_o (by omega), zu_o (by omega)]
/-- the class's row with the votes -/
def adV (R : Nat → Nat → Int32) (m k : Nat) (w v : Int32) : Nat → Nat → Int32 := zu2 (awF R m w) 12 (m * 4 + k) (awF R m w 12 (m * 4 + k) + v)
theorem ad_o {o j : Nat} (hk : k < 4) (h7 : o ≠ 7 ∨ j ≠ 0) (h8 : (o ≠ 8 ∧ o ≠ 9 ∧ o ≠ 10 ∧ o ≠ 11) ∨ j ≠ m) (h12 : o ≠ 12 ∨ j < m * 4 ∨ m * 4 + 4 ≤ j) : adV R m k w v o j = R o j ∧ adF R m k w v mg o j = R o j := by
  have a : adV R m k w v o j = R o j := by
    unfold adV
    rw [z2_ne (by omega), aw_o h7 h8 h12]
  refine ⟨a, ?_⟩
  show zu2 (adV R m k w v) 9 m (dtF (adV R m k w v) m mg) o j = R o j
  rw [z2_ne (by omega), a]
theorem ad_v {k' : Nat} (hk : k < 4) (hk' : k' < 4) : adV R m k w v 12 (m * 4 + k') = (if k' = k then v else 0) ∧ adF R m k w v mg 12 (m * 4 + k') = (if k' = k then v else 0) := by
  have a : adV R m k w v 12 (m * 4 + k') = (if k' = k then v else 0) := by
    unfold adV
    by_cases c : k' = k
    · subst c
      rw [z2_s, aw_v hk', if_pos rfl, Int32.zero_add]
    · rw [z2_ne (by omega), aw_v hk', if_neg c]
  refine ⟨a, ?_⟩
  show zu2 (adV R m k w v) 9 m (dtF (adV R m k w v) m mg) 12 (m * 4 + k') = _
  rw [z2_o (by decide), a]
theorem ad_m (hk : k < 4) : adF R m k w v mg 7 0 = Int32.ofNat (m + 1) ∧ adF R m k w v mg 8 m = w ∧ adF R m k w v mg 9 m = dtF (adV R m k w v) m mg ∧ adF R m k w v mg 10 m = 0 ∧ adF R m k w v mg 11 m = -1 := by
  have e : adF R m k w v mg = zu2 (adV R m k w v) 9 m (dtF (adV R m k w v) m mg) := rfl
  rw [e]
  refine ⟨?_, ?_, z2_s, ?_, ?_⟩
  · rw [z2_o (by decide)]
    unfold adV
    rw [z2_o (by decide), aw_7]
  · rw [z2_o (by decide)]
    unfold adV
    rw [z2_o (by decide), aw_8]
  · rw [z2_o (by decide)]
    unfold adV
    rw [z2_o (by decide), aw_10]
  · rw [z2_o (by decide)]
    unfold adV
    rw [z2_o (by decide), aw_11]
theorem ad_ok {c : Nat} (Z : RS ns du m tm R S) (hm : m < 80) (hk : k < ns) (hs : 1 ≤ ns) (hw : ∃ y, y ≤ 60000 ∧ w = Int32.ofNat y) (h1 : 1 ≤ c) (h2 : c ≤ 99) (hmg : pl 1 = mg) : RS ns du (m + 1) tm (adF R m k w (Int32.ofNat c) mg) (aiF S pl m ns w (Int32.ofNat k) (Int32.ofNat c)) := by
  obtain ⟨i, pc, n, q, E, A, J⟩ := Z
  have N := A.1.2
  have hk4 : k < 4 := by omega
  obtain ⟨⟨s0, s1, s2, s3, s4, s7, s5, s9, s8⟩, P, T, L, C, I, V, B⟩ := E
  obtain ⟨m7, m8, m9, m10, m11⟩ := ad_m (R := R) (m := m) (w := w) (v := Int32.ofNat c) (mg := mg) hk4
  have O : ScO ns (adV R m k w (Int32.ofNat c)) (aiA S m w (Int32.ofNat k) (Int32.ofNat c)) m := fun k' hk' => by
    rw [(ad_v (mg := mg) hk4 hk').1, (ai_sc (pl := pl) (ns := ns) hk4 hk' hm).1]
    refine ⟨rfl, ?_, fun z => ?_⟩
    · by_cases e : k' = k
      · rw [if_pos e]
        exact ⟨c, by omega, rfl⟩
      · rw [if_neg e]
        exact ⟨0, by decide, rfl⟩
    · rw [if_neg (by omega)]
  have pos : 0 < adV R m k w (Int32.ofNat c) 12 (m * 4 + k) := by
    rw [(ad_v (mg := mg) hk4 hk4).1, if_pos rfl]
    show Int32.ofNat 0 < Int32.ofNat c
    rw [i32_lt (by omega) (by omega)]
    omega
  have dk := dt_eq (pl := pl) O ⟨hs, by omega⟩ hm hmg hk4 pos
  have dr := dt_r (mg := mg) O ⟨hs, by omega⟩ hm
  have ro : ∀ o j, (o ≠ 7 ∨ j ≠ 0) → ((o ≠ 8 ∧ o ≠ 9 ∧ o ≠ 10 ∧ o ≠ 11) ∨ j ≠ m) → (o ≠ 12 ∨ j < m * 4 ∨ m * 4 + 4 ≤ j) → adF R m k w (Int32.ofNat c) mg o j = R o j := fun o j h7 h8 h12 => (ad_o hk4 h7 h8 h12).2
  have so : ∀ a, a ≠ 9 → a ≠ 208 + m → a ≠ 288 + m → a ≠ 48 + m → a ≠ 128 + m → (a < 368 + 4 * m ∨ 372 + 4 * m ≤ a) → aiF S pl m ns w (Int32.ofNat k) (Int32.ofNat c) a = S a := fun a h9 h1 h2 h3 h4 h5 => ai_o h9 h1 h2 h3 h4 h5
  refine ⟨i, pc, n, q, ⟨⟨?_, ?_, ?_, ?_, ?_, ?_, ?_, ?_, ?_⟩, fun j hj => ?_, fun k hk => ?_, fun k hk => ?_, fun k p hk hp => ?_, fun j hj => ?_, fun j k' hj hk' => ?_, fun b hb => ?_⟩, ?_, ?_⟩
  · rw [so _ (by omega) (by omega) (by omega) (by omega) (by omega) (by omega), ro _ _ (by omega) (by omega) (by omega), s0]
  · rw [so _ (by omega) (by omega) (by omega) (by omega) (by omega) (by omega), ro _ _ (by omega) (by omega) (by omega), s1]
  · rw [so _ (by omega) (by omega) (by omega) (by omega) (by omega) (by omega), ro _ _ (by omega) (by omega) (by omega), s2]
  · rw [so _ (by omega) (by omega) (by omega) (by omega) (by omega) (by omega), ro _ _ (by omega) (by omega) (by omega), s3]
  · rw [so _ (by omega) (by omega) (by omega) (by omega) (by omega) (by omega), ro _ _ (by omega) (by omega) (by omega), s4]
  · rw [so _ (by omega) (by omega) (by omega) (by omega) (by omega) (by omega), ro _ _ (by omega) (by omega) (by omega), s7]
  · rw [so _ (by omega) (by omega) (by omega) (by omega) (by omega) (by omega), ro _ _ (by omega) (by omega) (by omega), s5]
  · rw [m7, ai_eq, zu_same, ai_9 hm, s9, A.1.1.2.2.1]
    exact i32_add (b := 1)
  · rw [so _ (by omega) (by omega) (by omega) (by omega) (by omega) (by omega), ro _ _ (by omega) (by omega) (by omega), s8]
  · rw [so _ (by omega) (by omega) (by omega) (by omega) (by omega) (by omega), ro _ _ (by omega) (by omega) (by omega)]
    exact P j hj
  · rw [so _ (by omega) (by omega) (by omega) (by omega) (by omega) (by omega), ro _ _ (by omega) (by omega) (by omega), so _ (by omega) (by omega) (by omega) (by omega) (by omega) (by omega), ro _ _ (by omega) (by omega) (by omega)]
    exact T k hk
  · rw [so _ (by omega) (by omega) (by omega) (by omega) (by omega) (by omega), ro _ _ (by omega) (by omega) (by omega), so _ (by omega) (by omega) (by omega) (by omega) (by omega) (by omega), ro _ _ (by omega) (by omega) (by omega)]
    exact L k hk
  · rw [so _ (by omega) (by omega) (by omega) (by omega) (by omega) (by omega), ro _ _ (by omega) (by omega) (by omega)]
    exact C k p hk hp
  · by_cases e : j = m
    · subst e
      rw [m8, m9, m10, m11, dk]
      rw [ai_eq]
      refine ⟨?_, ?_, ?_, ?_⟩
      · simp (disch := omega) only [zu_same, zu_o, z2_s, z2_ne]
      · simp (disch := omega) only [zu_same, zu_o, z2_s, z2_ne]
      · simp (disch := omega) only [zu_same, zu_o, z2_s, z2_ne]
      · simp (disch := omega) only [zu_same, zu_o, z2_s, z2_ne]
    · rw [so (208 + j) (by omega) (by omega) (by omega) (by omega) (by omega) (by omega), so (288 + j) (by omega) (by omega) (by omega) (by omega) (by omega) (by omega), so (48 + j) (by omega) (by omega) (by omega) (by omega) (by omega) (by omega), so (128 + j) (by omega) (by omega) (by omega) (by omega) (by omega) (by omega), ro 8 j (by omega) (by omega) (by omega), ro 9 j (by omega) (by omega) (by omega), ro 10 j (by omega) (by omega) (by omega), ro 11 j (by omega) (by omega) (by omega)]
      exact I j (by omega)
  · by_cases e : j = m
    · subst e
      rw [(ad_v (mg := mg) hk4 hk').2, (ai_sc (pl := pl) (ns := ns) hk4 hk' hm).2]
    · rw [so _ (by omega) (by omega) (by omega) (by omega) (by omega) (by omega), ro _ _ (by omega) (by omega) (by omega)]
      exact V j k' (by omega) hk'
  · rw [so (688 + b) (by omega) (by omega) (by omega) (by omega) (by omega) (by omega), so (768 + b) (by omega) (by omega) (by omega) (by omega) (by omega) (by omega), so (848 + b) (by omega) (by omega) (by omega) (by omega) (by omega) (by omega), so (928 + b) (by omega) (by omega) (by omega) (by omega) (by omega) (by omega), so (1008 + b) (by omega) (by omega) (by omega) (by omega) (by omega) (by omega), so (1088 + b) (by omega) (by omega) (by omega) (by omega) (by omega) (by omega), ro 14 b (by omega) (by omega) (by omega), ro 15 b (by omega) (by omega) (by omega), ro 16 b (by omega) (by omega) (by omega), ro 17 b (by omega) (by omega) (by omega), ro 18 b (by omega) (by omega) (by omega)]
    exact B b hb
  · obtain ⟨⟨⟨a0, a5, a7, a71, a13, a131⟩, n1, n2, n3, n4, n5, n6, n7⟩, T, C, I, V, P, B⟩ := A
    refine ⟨⟨⟨?_, ?_, m7, ?_, ?_, ?_⟩, by omega, by omega, n3, n4, n5, n6, n7⟩, ⟨?_, fun k hk => ?_⟩, fun k p hk hp => ?_, fun j hj => ?_, fun j k' hj hk' => ?_, ⟨fun j hj => ?_, fun j j' hj hj' e => ?_⟩, fun b hb => ?_, fun b b' hb hb' => ?_⟩
    · rw [ro _ _ (by omega) (by omega) (by omega), a0]
    · rw [ro _ _ (by omega) (by omega) (by omega), a5]
    · rw [ro _ _ (by omega) (by omega) (by omega), a71]
    · rw [ro _ _ (by omega) (by omega) (by omega), a13]
    · rw [ro _ _ (by omega) (by omega) (by omega), a131]
    · rw [ro _ _ (by omega) (by omega) (by omega)]
      exact T.1
    · rw [ro _ _ (by omega) (by omega) (by omega)]
      exact T.2 k hk
    · rw [ro _ _ (by omega) (by omega) (by omega)]
      exact C k p hk hp
    · by_cases e : j = m
      · subst e
        rw [m8, m9, m10, m11]
        exact ⟨hw, dr, Or.inl ⟨Or.inl rfl, rfl⟩, fun _ => rfl⟩
      · rw [ro 8 j (by omega) (by omega) (by omega), ro 9 j (by omega) (by omega) (by omega), ro 10 j (by omega) (by omega) (by omega), ro 11 j (by omega) (by omega) (by omega)]
        exact I j (by omega)
    · by_cases e : j = m
      · subst e
        rw [(ad_v (mg := mg) hk4 hk').2]
        by_cases e2 : k' = k
        · rw [if_pos e2]
          exact ⟨⟨c, by omega, rfl⟩, fun z => by omega⟩
        · rw [if_neg e2]
          exact ⟨⟨0, by decide, rfl⟩, fun _ => rfl⟩
      · rw [ro _ _ (by omega) (by omega) (by omega)]
        exact V j k' (by omega) hk'
    · obtain ⟨y, k', y1, y2⟩ := P.1 j hj
      rw [ro 1 j (by omega) (by omega) (by omega)]
      refine ⟨y, k', y1, ?_⟩
      rw [ro 10 y (by omega) (by omega) (by omega), ro 9 y (by omega) (by omega) (by omega)]
      exact y2
    · rw [ro 1 j (by omega) (by omega) (by omega), ro 1 j' (by omega) (by omega) (by omega)] at e
      exact P.2 j j' hj hj' e
    · rw [ro 14 b (by omega) (by omega) (by omega), ro 15 b (by omega) (by omega) (by omega), ro 16 b (by omega) (by omega) (by omega), ro 17 b (by omega) (by omega) (by omega), ro 18 b (by omega) (by omega) (by omega)]
      exact B.1 b hb
    · rw [ro 17 b (by omega) (by omega) (by omega), ro 17 b' (by omega) (by omega) (by omega)]
      exact B.2 b b' hb hb'
  · unfold EqJ
    rw [fl_snoc, so 6 (by omega) (by omega) (by omega) (by omega) (by omega) (by omega), J]
    have e1 : ∀ a, ftS (adF R m k w (Int32.ofNat c) mg) 1 (0 + m) a = a := fun a => by
      unfold ftS
      rw [Nat.zero_add, m10, if_neg (by decide), Int32.add_zero]
    rw [e1]
    refine fl_congr _ _ _ fun j a _ hj => ?_
    unfold ftS
    rw [ro 10 j (by omega) (by omega) (by omega)]
end AD
