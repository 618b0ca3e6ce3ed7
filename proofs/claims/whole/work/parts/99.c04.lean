-- ===== frames =====
theorem lims_19 {m n o : Nat} (h : 19 ≤ o) : lims m n o = 0 := by
  obtain ⟨k, rfl⟩ : ∃ k, o = k + 19 := ⟨o - 19, by omega⟩
  rfl
theorem PlR_of {ns st du : Nat} {D D' : Nat → Nat → Int32} {pl : Nat → Int32} (h : ∀ o, o < 7 → D' o = D o) (Q : PlR ns st du D pl) : PlR ns st du D' pl := by
  obtain ⟨⟨p1, p2⟩, ⟨d8, p16, d11, p7, q4, q5, q6⟩, ps, pk, r⟩ := Q
  refine ⟨⟨fun k hk => by rw [h 0 (by decide)]; exact p1 k hk, by rw [h 0 (by decide)]; exact p2⟩, ⟨by rw [h 0 (by decide)]; exact d8, p16, by rw [h 0 (by decide)]; exact d11, p7, q4, q5, q6⟩, fun k hk => ?_, fun k hk => ?_, r⟩
  · rw [h 1 (by decide), h 2 (by decide)]
    exact ps k hk
  · rw [h (3 + k) (by omega)]
    exact pk k hk
theorem RSx_of {X : WX} {R R' : Nat → Nat → Int32} {s : Sz1} (h : ∀ o, o < 19 → R' o = R o) (Z : RSx X R s) : RSx X R' s := by
  refine RS_of Z (fun o j hj => ?_) (fun _ _ => rfl)
  by_cases c : o < 19
  · rw [h o c]
  · rw [lims_19 (by omega)] at hj
    exact absurd hj (Nat.not_lt_zero _)
def FQ (c : Nat) (h h' : Mm) : Prop := h.sz ≤ h'.sz ∧ (∀ a, a < h.sz → h'.kd a = h.kd a ∧ h'.mr a = h.mr a) ∧ ∀ a, a < h.sz → (a < 277 ∨ 290 < a) → a ≠ 276 → (a < c ∨ c + 19 ≤ a) → h'.mi a = h.mi a
theorem FQ.rf {c : Nat} {h : Mm} : FQ c h h := ⟨Nat.le_refl _, fun _ _ => ⟨rfl, rfl⟩, fun _ _ _ _ _ => rfl⟩
theorem FQ.tr {c : Nat} {h h1 h2 : Mm} (A : FQ c h h1) (B : FQ c h1 h2) : FQ c h h2 := by
  have s := A.1
  refine ⟨Nat.le_trans A.1 B.1, fun a ha => ?_, fun a ha h1 h2 h3 => ?_⟩
  · obtain ⟨x1, x2⟩ := A.2.1 a ha
    obtain ⟨y1, y2⟩ := B.2.1 a (by omega)
    exact ⟨y1.trans x1, y2.trans x2⟩
  · exact (B.2.2 a (by omega) h1 h2 h3).trans (A.2.2 a ha h1 h2 h3)
theorem FQ.thr {c : Nat} {h : Mm} : FQ c h h.thr := ⟨Nat.le_refl _, fun _ _ => ⟨rfl, rfl⟩, fun _ _ _ _ _ => rfl⟩
theorem FQ.fm {c : Nat} {h h' : Mm} (A : FrM h h') : FQ c h h' := by
  obtain ⟨e1, e2, e3, e4⟩ := A
  have es : h'.sz = h.sz := by
    show h'.1.1 = h.1.1
    rw [e1]
  refine ⟨by rw [es]; exact Nat.le_refl _, fun a _ => by rw [e2, e3]; exact ⟨rfl, rfl⟩, fun a _ h1 _ _ => (e4 a (by omega)).1⟩
theorem FQ.sl {c k : Nat} {h : Mm} {v : Int64} : FQ c h (h.sl 290 k v) := ⟨Nat.le_refl _, fun _ _ => ⟨rfl, rfl⟩, fun _ _ _ _ _ => rfl⟩
theorem FQ.sb {c : Nat} {h : Mm} {Q : Nat → Nat → Int32} : FQ c h (h.sb c Q) := ⟨Nat.le_refl _, fun _ _ => ⟨rfl, rfl⟩, fun a _ _ _ h3 => mi_sbo h3⟩
theorem FQ.w6 {c : Nat} {h : Mm} {W : Nat → Int32} : FQ c h (h.sw 276 W) := ⟨Nat.le_refl _, fun _ _ => ⟨rfl, rfl⟩, fun a _ _ h2 _ => mi_swo h2⟩
theorem str_fr {h h' : Mm} {p q n : Nat} {ch : Nat → Nat} (S : STR h p q n ch) (kp : h'.kd p = h.kd p) (kq : h'.kd q = h.kd q) (rp : h'.mr p = h.mr p) (ip : h'.mi p = h.mi p) (iq : h'.mi q = h.mi q) : STR h' p q n ch := by
  obtain ⟨s1, s2, s3, s4, s5⟩ := S
  refine ⟨by rw [rp]; exact s1, by rw [ip]; exact s2, by rw [kp, kq]; exact s3, s4, fun k hk => by rw [iq]; exact s5 k hk⟩
section CF
variable {X : WX} {u d b c v cap : Nat} {h h' : Mm}
/-- kinds tell: a name's cells are no cells that calls write -/
theorem nm_kd {p q n : Nat} {ch : Nat → Nat} (S : STR h p q n ch) : (h.kd p = some (.inl 9) ∨ h.kd p = some (.inl (9 + 1000))) ∧ (h.kd q = some (.inr (.byte, n)) ∨ h.kd q = some (.inr (.array .byte, n))) := by
  obtain ⟨-, -, s3, -⟩ := S
  rcases s3 with ⟨a, e⟩ | ⟨a, e⟩
  · exact ⟨Or.inl a, Or.inl e⟩
  · exact ⟨Or.inr a, Or.inr e⟩
theorem nm_out {p q n x : Nat} {ch : Nat → Nat} (S : STR h p q n ch) (Sx : ST h x) : (p < x ∨ x + 19 ≤ p) ∧ (q < x ∨ x + 19 ≤ q) := by
  obtain ⟨kp, kq⟩ := nm_kd S
  refine ⟨st_out Sx ?_ ?_ ?_ ?_, st_out Sx ?_ ?_ ?_ ?_⟩
  · rcases kp with e | e <;> rw [e] <;> exact fun z => by cases z
  · rcases kp with e | e <;> rw [e] <;> exact fun z => by cases z
  · rcases kp with e | e <;> rw [e] <;> exact fun z => by cases z
  · intro m
    rcases kp with e | e <;> rw [e] <;> exact fun z => by cases z
  · rcases kq with e | e <;> rw [e] <;> exact fun z => by cases z
  · rcases kq with e | e <;> rw [e] <;> exact fun z => by cases z
  · rcases kq with e | e <;> rw [e] <;> exact fun z => by cases z
  · intro m
    rcases kq with e | e <;> rw [e] <;> exact fun z => by cases z
theorem nm_ne {p q n a m : Nat} {ch : Nat → Nat} (S : STR h p q n ch) (ka : h.kd a = some (.inr (.int, m)) ∨ h.kd a = some (.inr (.long, m)) ∨ h.kd a = some (.inl 8) ∨ h.kd a = some (.inl 7)) : p ≠ a ∧ q ≠ a := by
  obtain ⟨kp, kq⟩ := nm_kd S
  refine ⟨fun e => ?_, fun e => ?_⟩
  · subst e
    rcases kp with e | e <;> rw [e] at ka <;> rcases ka with z | z | z | z <;> cases z
  · subst e
    rcases kq with e | e <;> rw [e] at ka <;> rcases ka with z | z | z | z <;> cases z
theorem CIw_fq (A : CIw X u d b c v cap h) (M : MO h) (k9 : h.kd 290 = some (.inr (.long, 1))) (F : FQ c h h') : CIw X u d b c v cap h' := by
  obtain ⟨⟨G, ud, Uu, Ud, Sb, Sc, Ss⟩, ⟨Bb, Bc, n1, n2, n3, hz⟩, ⟨H1, H2⟩, ⟨f1, f2, f3, f4, f5, f6, f7, f8⟩, L, V, Hj, ⟨TX, v1, v2⟩⟩ := A
  obtain ⟨Fs, Fk, Fm⟩ := F
  have G0 := G
  obtain ⟨g1, g2, g3, g4, g5, g6, g7, g8, g9, g10, g11, g12, g13, g14⟩ := G
  have hc : 216 ≤ c := by
    obtain ⟨z, -⟩ := Bc
    omega
  have kk : ∀ a, a < 291 → h'.kd a = h.kd a := fun a ha => (Fk a (by omega)).1
  have rr : ∀ a, a < 291 → h'.mr a = h.mr a := fun a ha => (Fk a (by omega)).2
  have m200 : h'.mi 200 = h.mi 200 := Fm 200 (by omega) (by omega) (by omega) (by omega)
  have m201 : h'.mi 201 = h.mi 201 := Fm 201 (by omega) (by omega) (by omega) (by omega)
  have blk : ∀ x, ST h x → BK h x → x ≠ c → ∀ o, o < 19 → h'.mi (x + o) = h.mi (x + o) := fun x Sx Bx nx o ho => by
    obtain ⟨z, z2⟩ := Bx
    have := st_dis Sx Sc nx
    exact Fm (x + o) (by omega) (by omega) (by omega) (by omega)
  have sto : ∀ x, ST h x → BK h x → ST h' x := fun x Sx Bx => ST_of (h := h) (fun o ho => (Fk _ (by have := Bx.2; omega)).1) (fun o ho => (Fk _ (by have := Bx.2; omega)).2) Sx
  have bko : ∀ x, BK h x → BK h' x := fun x Bx => ⟨Bx.1, by have := Bx.2; omega⟩
  have B4 : BK h 254 := ⟨Or.inl ⟨by decide, by decide⟩, by omega⟩
  have um : ∀ o, o < 7 → h'.mi (u + o) = h.mi (u + o) := fun o ho => Fm _ (by omega) (by omega) (by omega) (by omega)
  refine ⟨⟨⟨?_, ?_, ?_, ?_, ?_, ?_, ?_, ?_, ?_, ?_, ?_, ?_, ?_, ?_⟩, ud, SU_of (h := h) (fun o ho => kk _ (by omega)) (rr _ (by omega)) Uu, SU_of (h := h) (fun o ho => kk _ (by omega)) (rr _ (by omega)) Ud, sto b Sb Bb, sto c Sc Bc, sto 254 Ss B4⟩, ⟨bko b Bb, bko c Bc, n1, n2, n3, by omega⟩, ⟨fun j x hj e => ?_, fun j j' x hj hj' e e' => ?_⟩, ⟨by rw [m200]; exact f1, by rw [m201]; exact f2, by rw [m200]; exact f3, by rw [m200]; exact f4, by rw [m200]; exact f5, by rw [m200]; exact f6, by rw [m200]; exact f7, f8⟩, fun hl => ?_, fun hs => ?_, fun j hj => ?_, ?_, v1, v2⟩
  · rw [kk 200 (by decide)]; exact g1
  · rw [rr 200 (by decide)]; exact g2
  · rw [rr 200 (by decide)]; exact g3
  · rw [rr 200 (by decide)]; exact g4
  · rw [rr 200 (by decide)]; exact g5
  · rw [rr 200 (by decide)]; exact g6
  · rw [rr 200 (by decide)]; exact g7
  · rw [rr 200 (by decide)]; exact g8
  · rw [rr 200 (by decide)]; exact g9
  · rw [rr 200 (by decide)]; exact g10
  · rw [kk 201 (by decide)]; exact g11
  · rw [kk 273 (by decide)]; exact g12
  · rw [kk 274 (by decide)]; exact g13
  · rw [kk 276 (by decide)]; exact g14
  · rw [rr 273 (by decide)] at e
    obtain ⟨x1, x2, x3⟩ := H1 j x hj e
    exact ⟨sto x x1 x2, bko x x2, x3⟩
  · rw [rr 273 (by decide)] at e e'
    exact H2 j j' x hj hj' e e'
  · obtain ⟨l1, l2, l3⟩ := L hl
    refine ⟨PlR_of um l1, RSx_of (fun o ho => blk b Sb Bb n1 o ho) l2, fun k hk => ?_⟩
    obtain ⟨nk, p, q, y1, y2, y3, y4⟩ := l3 k hk
    have q4 : X.ns ≤ 4 := l1.2.1.2.2.2.2.2.1
    obtain ⟨o1, o2⟩ := nm_out y2 Sc
    have o6 := nm_ne (a := 276) (m := 12) y2 (Or.inl g14)
    have ne : ∀ a, 277 ≤ a → a ≤ 290 → p ≠ a ∧ q ≠ a := fun a h1 h2 => by
      obtain ⟨m1, m2, m3, m4, m5, m6, m7, m8, m9, m10, m11, m12, m13, -⟩ := M
      have : a = 277 ∨ a = 278 ∨ a = 279 ∨ a = 280 ∨ a = 281 ∨ a = 282 ∨ a = 283 ∨ a = 284 ∨ a = 285 ∨ a = 286 ∨ a = 287 ∨ a = 288 ∨ a = 289 ∨ a = 290 := by omega
      rcases this with rfl | rfl | rfl | rfl | rfl | rfl | rfl | rfl | rfl | rfl | rfl | rfl | rfl | rfl
      · exact nm_ne (m := 0) y2 (Or.inr (Or.inr (Or.inl m1)))
      · exact nm_ne y2 (Or.inl m2)
      · exact nm_ne y2 (Or.inl m3)
      · exact nm_ne y2 (Or.inl m4)
      · exact nm_ne y2 (Or.inr (Or.inl m5))
      · exact nm_ne y2 (Or.inr (Or.inl m6))
      · exact nm_ne y2 (Or.inl m7)
      · exact nm_ne y2 (Or.inl m8)
      · exact nm_ne y2 (Or.inl m9)
      · exact nm_ne y2 (Or.inl m10)
      · exact nm_ne y2 (Or.inl m11)
      · exact nm_ne y2 (Or.inl m12)
      · exact nm_ne y2 (Or.inl m13)
      · exact nm_ne y2 (Or.inr (Or.inl k9))
    have pr : p < 277 ∨ 290 < p := by
      by_cases z : 277 ≤ p ∧ p ≤ 290
      · exact absurd rfl (ne p z.1 z.2).1
      · omega
    have qr : q < 277 ∨ 290 < q := by
      by_cases z : 277 ≤ q ∧ q ≤ 290
      · exact absurd rfl (ne q z.1 z.2).2
      · omega
    exact ⟨nk, p, q, by rw [rr _ (by omega)]; exact y1, str_fr y2 (Fk p y3).1 (Fk q y4).1 (Fk p y3).2 (Fm p y3 pr o6.1 o1) (Fm q y4 qr o6.2 o2), by omega, by omega⟩
  · exact RSx_of (fun o ho => blk 254 Ss B4 (Ne.symm n3) o ho) (V hs)
  · obtain ⟨x, e, z⟩ := Hj j hj
    obtain ⟨x1, x2, x3, x4, x5⟩ := H1 j x (by omega) e
    exact ⟨x, by rw [rr 273 (by decide)]; exact e, RSx_of (fun o ho => blk x x1 x2 x4 o ho) z⟩
  · obtain ⟨s1, s2, s3, s4, s5, s6, s7, s8, s9, s10, s11⟩ := TX
    have o1 := st_out (a := v) Sc (by rw [s3]; exact fun z => by cases z) (by rw [s3]; exact fun z => by cases z) (by rw [s3]; exact fun z => by cases z) (fun n => by rw [s3]; exact fun z => by cases z)
    have m4 : h'.mi 274 = h.mi 274 := Fm 274 (by omega) (by omega) (by omega) (by
      obtain ⟨z, -⟩ := Bc
      omega)
    have mv : h'.mi v = h.mi v := by
      have n0 : v ≠ 290 := fun e => by rw [e, k9] at s3; cases s3
      exact Fm v s9 (by omega) (by omega) o1
    refine ⟨by rw [kk 274 (by decide)]; exact s1, by rw [rr 274 (by decide)]; exact s2, by rw [(Fk v s9).1]; exact s3, by rw [m4]; exact s4, by rw [m4]; exact s5, s6, s7, s8, by omega, by omega, fun k hk => by rw [mv]; exact s11 k hk⟩
end CF
