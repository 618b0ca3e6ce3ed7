-- ===== species lines =====
section EX
variable {h h' : Mm} {tk pr d c n m : Nat} {T : Nat → Nat} {F P : Nat → Int32} {D R : Nat → Nat → Int32}
def PZ (h : Mm) (tk pr d c : Nat) : Prop := tk < h.sz ∧ pr < h.sz ∧ c + 19 ≤ h.sz ∧ 291 ≤ h.sz
theorem ext_pz (E : EXT d m h h') (Z : PZ h tk pr d c) : PZ h' tk pr d c := by
  obtain ⟨e1, -⟩ := E
  obtain ⟨z1, z2, z3, z4⟩ := Z
  exact ⟨by omega, by omega, by omega, by omega⟩
theorem ext_str {p q l : Nat} {ch : Nat → Nat} (E : EXT d m h h') (S : STR h p q l ch) (hp : p < h.sz) (hq : q < h.sz) (hd : p < d + 3 ∨ d + 7 ≤ p) : STR h' p q l ch := by
  obtain ⟨e1, e2, e3, e4, e5, e6⟩ := E
  obtain ⟨s1, s2, s3, s4, s5⟩ := S
  refine ⟨(e6 p 0 hp (Or.inr hd)).trans s1, ?_, ?_, s4, fun k hk => ?_⟩
  · rw [(e5 p hp).2.2, s2]
  · rw [(e5 p hp).1, (e5 q hq).1]; exact s3
  · rw [(e5 q hq).2.2]; exact s5 k hk
theorem ext_wrd (E : EXT d m h h') (W : WRD h) (hz : 200 ≤ h.sz) (hd : 200 ≤ d) : WRD h' := by
  obtain ⟨w1, w2, w3⟩ := W
  refine ⟨fun i hi => ?_, ?_, fun i hi => ?_⟩
  · obtain ⟨x1, x2, x3⟩ := w1 i hi
    refine ⟨?_, ?_, ext_str E x3 (by omega) (by omega) (by omega)⟩
    · rw [(E.2.2.2.2.1 _ (by omega)).1, x1]
    · rw [E.2.2.2.2.2 _ _ (by omega) (by omega), x2]
  · rw [(E.2.2.2.2.1 _ (by omega)).1, w2]
  · rw [E.2.2.2.2.2 _ _ (by omega) (by omega), w3 i hi]
theorem ext_txt (E : EXT d m h h') (X : TXT h n T) (hz : 202 ≤ h.sz) : TXT h' n T := by
  refine ⟨X.1, fun j hj => ?_⟩
  rw [(E.2.2.2.2.1 201 (by omega)).2.2]
  exact X.2 j hj
theorem ext_po (E : EXT d m h h') (Z : PZ h tk pr d c) (O : PO h tk pr d c) : PO h' tk pr d c := by
  obtain ⟨z1, z2, z3, z4⟩ := Z
  obtain ⟨j, k1, r1, k2, k3, r2, r3, r4, U, S, o1, o2, o3, o4⟩ := O
  have j' := j
  obtain ⟨j1, j2, j3, j4, j5, j6⟩ := j'
  have ek : ∀ a, a < h.sz → h'.kd a = h.kd a := fun a ha => (E.2.2.2.2.1 a ha).1
  have er := E.2.2.2.2.2
  refine ⟨j, (ek _ z1).trans k1, (er _ _ z1 (by omega)).trans r1, (ek _ (by omega)).trans k2, (ek _ z2).trans k3, (er _ _ z2 (by omega)).trans r2, (er _ _ z2 (by omega)).trans r3, (er _ _ z2 (by omega)).trans r4, ?_, ?_, o1, o2, o3, o4⟩
  · exact SU_of (h := h) (fun o ho => ek _ (by omega)) (funext fun f => er _ f (by omega) (by omega)) U
  · exact ST_of (h := h) (fun o ho => ek _ (by omega)) (fun o ho => funext fun f => er _ f (by omega) (by omega)) S
/-- the memory under the parser, after something new was made -/
def bkM (G h : Mm) (tk pr d c : Nat) : Mm := G.cp tk pr d c (h.mi tk) (h.mi pr) (fun o => h.mi (d + o)) (fun o => h.mi (c + o))
theorem bk_cp {G : Mm} (Z : PZ h tk pr d c) (J : DJ tk pr d c) (e : ∀ a, a < h.sz → G.mi a = (h.cp tk pr d c F P D R).mi a) : (bkM G h tk pr d c).cp tk pr d c F P D R = G := by
  obtain ⟨z1, z2, z3, z4⟩ := Z
  obtain ⟨j1, j2, j3, j4, j5, j6⟩ := J
  refine mm_ext rfl rfl ?_ rfl rfl
  funext a
  have e' : a < h.sz → G.mi a = (if a = tk then F else if a = pr then P else if d ≤ a ∧ a < d + 7 then D (a - d) else if c ≤ a ∧ a < c + 19 then R (a - c) else h.mi a) := e a
  show (if a = tk then F else if a = pr then P else if d ≤ a ∧ a < d + 7 then D (a - d) else if c ≤ a ∧ a < c + 19 then R (a - c) else (if a = tk then h.mi tk else if a = pr then h.mi pr else if d ≤ a ∧ a < d + 7 then h.mi (d + (a - d)) else if c ≤ a ∧ a < c + 19 then h.mi (c + (a - c)) else G.mi a)) = G.mi a
  by_cases c1 : a = tk
  · rw [e' (by omega), if_pos c1, if_pos c1]
  · by_cases c2 : a = pr
    · rw [e' (by omega)]
      simp only [if_neg c1, if_pos c2]
    · by_cases c3 : d ≤ a ∧ a < d + 7
      · rw [e' (by omega)]
        simp only [if_neg c1, if_neg c2, if_pos c3]
      · by_cases c4 : c ≤ a ∧ a < c + 19
        · rw [e' (by omega)]
          simp only [if_neg c1, if_neg c2, if_neg c3, if_pos c4]
        · rw [if_neg c1, if_neg c2, if_neg c3, if_neg c4, if_neg c1, if_neg c2, if_neg c3, if_neg c4]
theorem bk_mi {G : Mm} {a : Nat} (e : G.mi a = (h.cp tk pr d c F P D R).mi a) : (bkM G h tk pr d c).mi a = h.mi a := by
  have e' : G.mi a = (if a = tk then F else if a = pr then P else if d ≤ a ∧ a < d + 7 then D (a - d) else if c ≤ a ∧ a < c + 19 then R (a - c) else h.mi a) := e
  show (if a = tk then h.mi tk else if a = pr then h.mi pr else if d ≤ a ∧ a < d + 7 then h.mi (d + (a - d)) else if c ≤ a ∧ a < c + 19 then h.mi (c + (a - c)) else G.mi a) = h.mi a
  by_cases c1 : a = tk
  · rw [if_pos c1, c1]
  · by_cases c2 : a = pr
    · rw [if_neg c1, if_pos c2, c2]
    · by_cases c3 : d ≤ a ∧ a < d + 7
      · rw [if_neg c1, if_neg c2, if_pos c3, show d + (a - d) = a by omega]
      · by_cases c4 : c ≤ a ∧ a < c + 19
        · rw [if_neg c1, if_neg c2, if_neg c3, if_pos c4, show c + (a - c) = a by omega]
        · rw [if_neg c1, if_neg c2, if_neg c3, if_neg c4, e', if_neg c1, if_neg c2, if_neg c3, if_neg c4]
end EX
