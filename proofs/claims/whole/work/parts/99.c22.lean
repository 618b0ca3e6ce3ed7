-- ===== append and load: frames =====
theorem su_out {h : Mm} {d a : Nat} (S : SU h d) (h4 : h.kd a ≠ some (.inl 4)) (h2 : h.kd a ≠ some (.inl 2)) (hi : h.kd a ≠ some (.inr (.int, 4))) : a < d ∨ d + 7 ≤ a := by
  by_cases c : d ≤ a ∧ a < d + 7
  · obtain ⟨s0, -, -, -, -, -, -, s1, s2, s3, s4, s5, s6⟩ := S
    have : a = d ∨ a = d + 1 ∨ a = d + 2 ∨ a = d + 3 ∨ a = d + 4 ∨ a = d + 5 ∨ a = d + 6 := by omega
    rcases this with e | e | e | e | e | e | e <;> rw [e] at h4 h2 hi
    · exact absurd s0 h4
    · exact absurd s1 hi
    · exact absurd s2 hi
    · exact absurd s3 h2
    · exact absurd s4 h2
    · exact absurd s5 h2
    · exact absurd s6 h2
  · omega
def FG (d c : Nat) (h h' : Mm) : Prop := h.sz ≤ h'.sz ∧ (∀ a, a < h.sz → h'.kd a = h.kd a) ∧ (∀ a f, a < h.sz → a ≠ 200 → (f ≠ 0 ∨ a < d + 3 ∨ d + 7 ≤ a) → h'.mr a f = h.mr a f) ∧ (∀ j, (j < 5 ∨ 8 < j) → h'.mr 200 j = h.mr 200 j) ∧ ∀ a, a < h.sz → a ≠ 200 → a ≠ 201 → (a < d ∨ d + 7 ≤ a) → (a < c ∨ c + 19 ≤ a) → h'.mi a = h.mi a
section GN
variable {X : WX} {u d b c v cap : Nat} {h h' : Mm}
theorem gn_base (A : CIw X u d b c v cap h) (F : FG d c h h') :
    (SU h' u ∧ SU h' d) ∧ (∀ y, ST h y → BK h y → ST h' y ∧ BK h' y ∧ (y ≠ c → ∀ o, o < 19 → h'.mi (y + o) = h.mi (y + o))) ∧ (∀ o, o < 7 → h'.mi (u + o) = h.mi (u + o)) ∧ (∀ ns nm, ns ≤ 4 → NMc h u ns nm → NMc h' u ns nm) ∧ h'.mr 273 = h.mr 273 ∧ SBx h' 274 v cap X.tx.1 X.tx.2 ∧ (291 ≤ h'.sz ∧ ∀ a, a < 291 → h'.kd a = h.kd a) := by
  obtain ⟨⟨G, ud, Uu, Ud, Sb, Sc, Ss⟩, ⟨Bb, Bc, n1, n2, n3, hz⟩, -, -, -, -, -, ⟨TX, v1, v2⟩⟩ := A
  obtain ⟨Fs, Fk, Fr, F2, Fm⟩ := F
  obtain ⟨g1, g2, g3, g4, g5, g6, g7, g8, g9, g10, g11, g12, g13, g14⟩ := G
  have bc := Bc.1
  have rr : ∀ a, a < h.sz → a ≠ 200 → (a < d + 3 ∨ d + 7 ≤ a) → h'.mr a = h.mr a := fun a ha a2 hd => by
    funext f
    exact Fr a f ha a2 (Or.inr hd)
  refine ⟨⟨SU_of (h := h) (fun o ho => Fk _ (by omega)) (rr _ (by omega) (by omega) (by omega)) Uu, SU_of (h := h) (fun o ho => Fk _ (by omega)) (rr _ (by omega) (by omega) (by omega)) Ud⟩, fun y Sy By => ?_, fun o ho => Fm _ (by omega) (by omega) (by omega) (by omega) (by omega), fun ns nm h4 N k hk => ?_, rr 273 (by omega) (by decide) (by omega), ?_, by omega, fun a ha => Fk a (by omega)⟩
  · have by' := By.1
    have bz := By.2
    refine ⟨ST_of (h := h) (fun o ho => Fk _ (by omega)) (fun o ho => rr _ (by omega) (by omega) (by omega)) Sy, ⟨By.1, by omega⟩, fun ny o ho => ?_⟩
    have := st_dis Sy Sc ny
    exact Fm _ (by omega) (by omega) (by omega) (by omega) (by omega)
  · obtain ⟨nk, p, q, y1, y2, y3, y4⟩ := N k hk
    obtain ⟨kp, kq⟩ := nm_kd y2
    obtain ⟨o1, o2⟩ := nm_out y2 Sc
    have np : p ≠ 200 ∧ q ≠ 200 := nm_ne (m := 0) y2 (Or.inr (Or.inr (Or.inr g1)))
    have np1 : p ≠ 201 := fun e => by
      rw [e, g11] at kp
      rcases kp with z | z <;> cases z
    have nq1 : q ≠ 201 := fun e => by
      rw [e, g11] at kq
      have nl : (nm k).1 ≤ 9 := nk.2.1
      rcases kq with z | z
      · injection z with z
        injection z with z
        injection z with z z2
        omega
      · cases z
    have dp : p < d ∨ d + 7 ≤ p := su_out Ud (by rcases kp with e | e <;> rw [e] <;> exact fun z => by cases z) (by rcases kp with e | e <;> rw [e] <;> exact fun z => by cases z) (by rcases kp with e | e <;> rw [e] <;> exact fun z => by cases z)
    have dq : q < d ∨ d + 7 ≤ q := su_out Ud (by rcases kq with e | e <;> rw [e] <;> exact fun z => by cases z) (by rcases kq with e | e <;> rw [e] <;> exact fun z => by cases z) (by rcases kq with e | e <;> rw [e] <;> exact fun z => by cases z)
    refine ⟨nk, p, q, ?_, str_fr y2 (Fk p y3) (Fk q y4) (rr p y3 np.1 (by omega)) (Fm p y3 np.1 np1 dp o1) (Fm q y4 np.2 nq1 dq o2), by omega, by omega⟩
    rw [rr _ (by omega) (by omega) (by omega)]
    exact y1
  · obtain ⟨s1, s2, s3, s4, s5, s6, s7, s8, s9, s10, s11⟩ := TX
    have m4 : h'.mi 274 = h.mi 274 := Fm 274 (by omega) (by decide) (by decide) (by omega) (by omega)
    have mv : h'.mi v = h.mi v := by
      have o1 := st_out (a := v) Sc (by rw [s3]; exact fun z => by cases z) (by rw [s3]; exact fun z => by cases z) (by rw [s3]; exact fun z => by cases z) (fun n => by rw [s3]; exact fun z => by cases z)
      exact Fm v s9 (by omega) (by omega) (by omega) o1
    exact ⟨by rw [Fk 274 (by omega)]; exact s1, by rw [rr 274 (by omega) (by decide) (by omega)]; exact s2, by rw [Fk v s9]; exact s3, by rw [m4]; exact s4, by rw [m4]; exact s5, s6, s7, s8, by omega, by omega, fun k hk => by rw [mv]; exact s11 k hk⟩
/-- append, and a load that fails -/
theorem CIw_ap {bf : Nat × (Nat → Nat)} {er : Int32 × Int32} (A : CIw X u d b c v cap h) (F : FG d c h h') (F5 : ∀ j, h'.mr 200 j = h.mr 200 j) (e1 : h'.mi 200 1 = Int32.ofNat bf.1) (eb : CBt (h'.mi 201) bf.1 bf.2) (e2 : h'.mi 200 2 = er.1) (e3 : h'.mi 200 3 = er.2) (ej : ∀ j, 3 < j → h'.mi 200 j = h.mi 200 j) : CIw (bf, er, X.2.2) u d b c v cap h' := by
  obtain ⟨⟨q1, q2⟩, q3, q4, q5, q6, q7, q8, q9⟩ := gn_base A F
  obtain ⟨⟨G, ud, Uu, Ud, Sb, Sc, Ss⟩, ⟨Bb, Bc, n1, n2, n3, hz⟩, ⟨H1, H2⟩, ⟨f1, f2, f3, f4, f5, f6, f7, f8⟩, L, V, Hj, ⟨TX, v1, v2⟩⟩ := A
  obtain ⟨g1, g2, g3, g4, g5, g6, g7, g8, g9, g10, g11, g12, g13, g14⟩ := G
  have B4 : BK h 254 := ⟨Or.inl ⟨by decide, by decide⟩, by omega⟩
  refine ⟨⟨⟨(q9 200 (by decide)).trans g1, (F5 _).trans g2, (F5 _).trans g3, (F5 _).trans g4, (F5 _).trans g5, (F5 _).trans g6, (F5 _).trans g7, (F5 _).trans g8, (F5 _).trans g9, (F5 _).trans g10, (q9 201 (by decide)).trans g11, (q9 273 (by decide)).trans g12, (q9 274 (by decide)).trans g13, (q9 276 (by decide)).trans g14⟩, ud, q1, q2, (q3 b Sb Bb).1, (q3 c Sc Bc).1, (q3 254 Ss B4).1⟩, ⟨(q3 b Sb Bb).2.1, (q3 c Sc Bc).2.1, n1, n2, n3, q8⟩, ⟨fun j x hj e => ?_, fun j j' x hj hj' e e' => ?_⟩, ⟨e1, eb, e2, e3, (ej 4 (by decide)).trans f5, (ej 9 (by decide)).trans f6, (ej 11 (by decide)).trans f7, f8⟩, fun hl => ?_, fun hs => ?_, fun j hj => ?_, q7, v1, v2⟩
  · rw [q6] at e
    obtain ⟨y1, y2, y3⟩ := H1 j x hj e
    exact ⟨(q3 x y1 y2).1, (q3 x y1 y2).2.1, y3⟩
  · rw [q6] at e e'
    exact H2 j j' x hj hj' e e'
  · obtain ⟨l1, l2, l3⟩ := L hl
    exact ⟨PlR_of q4 l1, RSx_of ((q3 b Sb Bb).2.2 n1) l2, q5 _ _ l1.2.1.2.2.2.2.2.1 l3⟩
  · exact RSx_of ((q3 254 Ss B4).2.2 (Ne.symm n3)) (V hs)
  · obtain ⟨x, e, z⟩ := Hj j hj
    obtain ⟨y1, y2, y3, y4, y5⟩ := H1 j x (by have : j < X.nu := hj; omega) e
    exact ⟨x, by rw [q6]; exact e, RSx_of ((q3 x y1 y2).2.2 y4) z⟩
/-- a load that succeeds -/
theorem CIw_ld {bf : Nat × (Nat → Nat)} {er : Int32 × Int32} {pp : (Nat × Nat × Nat) × (Nat → Int32) × (Nat → Nat × (Nat → Nat))} {cu sd : Sz1} {hi : Nat → Sz1} (A : CIw X u d b c v cap h) (F : FG d c h h') (r5 : h'.mr 200 5 = some d) (r6 : h'.mr 200 6 = some u) (r7 : h'.mr 200 7 = some c) (r8 : h'.mr 200 8 = some b) (e1 : h'.mi 200 1 = Int32.ofNat bf.1) (eb : CBt (h'.mi 201) bf.1 bf.2) (e2 : h'.mi 200 2 = er.1) (e3 : h'.mi 200 3 = er.2) (e4 : h'.mi 200 4 = 1) (e9 : h'.mi 200 9 = 0) (e11 : h'.mi 200 11 = 0) (P : PlR pp.1.1 pp.1.2.1 pp.1.2.2 (rowsAt h' d) pp.2.1) (R : RS pp.1.1 pp.1.2.2 cu.1 cu.2.1 (rowsAt h' c) cu.2.2) (N : NMc h' d pp.1.1 pp.2.2) : CIw (bf, er, (true, false, 0), pp, cu, sd, hi, X.tx) d u c b v cap h' := by
  obtain ⟨⟨q1, q2⟩, q3, q4, q5, q6, q7, q8, q9⟩ := gn_base A F
  obtain ⟨⟨G, ud, Uu, Ud, Sb, Sc, Ss⟩, ⟨Bb, Bc, n1, n2, n3, hz⟩, ⟨H1, H2⟩, -, L, V, Hj, ⟨TX, v1, v2⟩⟩ := A
  obtain ⟨g1, g2, g3, g4, g5, g6, g7, g8, g9, g10, g11, g12, g13, g14⟩ := G
  have B4 : BK h 254 := ⟨Or.inl ⟨by decide, by decide⟩, by omega⟩
  have F5 := F.2.2.2.1
  refine ⟨⟨⟨(q9 200 (by decide)).trans g1, (F5 _ (by decide)).trans g2, r5, r6, r7, r8, (F5 _ (by decide)).trans g7, (F5 _ (by decide)).trans g8, (F5 _ (by decide)).trans g9, (F5 _ (by decide)).trans g10, (q9 201 (by decide)).trans g11, (q9 273 (by decide)).trans g12, (q9 274 (by decide)).trans g13, (q9 276 (by decide)).trans g14⟩, by omega, q2, q1, (q3 c Sc Bc).1, (q3 b Sb Bb).1, (q3 254 Ss B4).1⟩, ⟨(q3 c Sc Bc).2.1, (q3 b Sb Bb).2.1, Ne.symm n1, n3, n2, q8⟩, ⟨fun j x hj e => ?_, fun j j' x hj hj' e e' => ?_⟩, ⟨e1, eb, e2, e3, e4, e9, e11, Nat.zero_le _⟩, fun _ => ⟨P, R, N⟩, fun hs => ?_, fun j hj => absurd hj (Nat.not_lt_zero _), q7, v1, v2⟩
  · rw [q6] at e
    obtain ⟨y1, y2, y3, y4, y5⟩ := H1 j x hj e
    exact ⟨(q3 x y1 y2).1, (q3 x y1 y2).2.1, y4, y3, y5⟩
  · rw [q6] at e e'
    exact H2 j j' x hj hj' e e'
  · cases (show false = true from hs)
end GN
