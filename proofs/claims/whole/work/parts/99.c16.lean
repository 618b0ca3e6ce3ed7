-- ===== changes: frames =====
def WX.ch (X : WX) (sv : Bool) (nu : Nat) (cu sd : Sz1) (hi : Nat → Sz1) : WX := (X.1, X.2.1, (X.ld, sv, nu), X.2.2.2.1, cu, sd, hi, X.tx)
section CH
variable {X : WX} {u d b b' c v cap : Nat} {h h' : Mm} {sv : Bool} {nu : Nat} {cu sd : Sz1} {hi : Nat → Sz1}
theorem CIw_ch (A : CIw X u d b c v cap h) (M : MO h) (k9 : h.kd 290 = some (.inr (.long, 1))) (C : Nat → Prop) (hC : ∀ x, C x → ST h x ∧ BK h x) (nC : ¬ C c)
    (Fs : h.sz ≤ h'.sz) (Fk : ∀ a, a < h.sz → h'.kd a = h.kd a ∧ (a ≠ 200 → a ≠ 273 → h'.mr a = h.mr a)) (F2 : ∀ j, j ≠ 7 → h'.mr 200 j = h.mr 200 j)
    (Fm : ∀ a, a < h.sz → a ≠ 200 → (∀ x, C x → a < x ∨ x + 19 ≤ a) → h'.mi a = h.mi a) (Fi : ∀ j, j ≠ 9 → j ≠ 11 → h'.mi 200 j = h.mi 200 j)
    (G7 : h'.mr 200 7 = some b') (Sb : ST h' b') (Bb : BK h' b') (n1 : b' ≠ c) (n2 : b' ≠ 254) (H : HIc h' b' c) (f9 : h'.mi 200 9 = b2i sv) (f11 : h'.mi 200 11 = Int32.ofNat nu) (nu8 : nu ≤ 8)
    (L : X.ld = true → RSx X (rowsAt h' b') cu) (V : sv = true → RSx X (rowsAt h' 254) sd) (Hj : ∀ j, j < nu → ∃ x, h'.mr 273 j = some x ∧ RSx X (rowsAt h' x) (hi j)) : CIw (X.ch sv nu cu sd hi) u d b' c v cap h' := by
  obtain ⟨⟨G, ud, Uu, Ud, -, Sc, Ss⟩, ⟨-, Bc, -, -, n3, hz⟩, -, ⟨f1, f2, f3, f4, f5, -, -, -⟩, L0, -, -, ⟨TX, v1, v2⟩⟩ := A
  obtain ⟨g1, g2, g3, g4, g5, g6, g7, g8, g9, g10, g11, g12, g13, g14⟩ := G
  have kk : ∀ a, a < 291 → h'.kd a = h.kd a := fun a ha => (Fk a (by omega)).1
  have rr : ∀ a, a < 291 → a ≠ 200 → a ≠ 273 → h'.mr a = h.mr a := fun a ha => (Fk a (by omega)).2
  have lo : ∀ a, a < 216 → ∀ x, C x → a < x ∨ x + 19 ≤ a := fun a ha x hx => by
    have := (hC x hx).2.1
    omega
  have m201 : h'.mi 201 = h.mi 201 := Fm 201 (by omega) (by omega) (lo _ (by omega))
  have sto : ∀ x, ST h x → BK h x → ST h' x := fun x Sx Bx => ST_of (h := h) (fun o ho => (Fk _ (by have := Bx.2; omega)).1) (fun o ho => (Fk _ (by have := Bx.2; omega)).2 (by have := Bx.1; omega) (by have := Bx.1; omega)) Sx
  have bko : ∀ x, BK h x → BK h' x := fun x Bx => ⟨Bx.1, by have := Bx.2; omega⟩
  have B4 : BK h 254 := ⟨Or.inl ⟨by decide, by decide⟩, by omega⟩
  have um : ∀ o, o < 7 → h'.mi (u + o) = h.mi (u + o) := fun o ho => Fm _ (by omega) (by omega) (lo _ (by omega))
  refine ⟨⟨⟨?_, ?_, ?_, ?_, G7, ?_, ?_, ?_, ?_, ?_, ?_, ?_, ?_, ?_⟩, ud, SU_of (h := h) (fun o ho => kk _ (by omega)) (rr _ (by omega) (by omega) (by omega)) Uu, SU_of (h := h) (fun o ho => kk _ (by omega)) (rr _ (by omega) (by omega) (by omega)) Ud, Sb, sto c Sc Bc, sto 254 Ss B4⟩, ⟨Bb, bko c Bc, n1, n2, n3, by omega⟩, H, ⟨by rw [Fi 1 (by decide) (by decide)]; exact f1, by rw [m201]; exact f2, by rw [Fi 2 (by decide) (by decide)]; exact f3, by rw [Fi 3 (by decide) (by decide)]; exact f4, by rw [Fi 4 (by decide) (by decide)]; exact f5, f9, f11, nu8⟩, fun hl => ?_, V, Hj, ?_, v1, v2⟩
  · rw [kk 200 (by decide)]; exact g1
  · rw [F2 _ (by decide)]; exact g2
  · rw [F2 _ (by decide)]; exact g3
  · rw [F2 _ (by decide)]; exact g4
  · rw [F2 _ (by decide)]; exact g6
  · rw [F2 _ (by decide)]; exact g7
  · rw [F2 _ (by decide)]; exact g8
  · rw [F2 _ (by decide)]; exact g9
  · rw [F2 _ (by decide)]; exact g10
  · rw [kk 201 (by decide)]; exact g11
  · rw [kk 273 (by decide)]; exact g12
  · rw [kk 274 (by decide)]; exact g13
  · rw [kk 276 (by decide)]; exact g14
  · have hl' : X.ld = true := hl
    obtain ⟨l1, l2, l3⟩ := L0 hl'
    refine ⟨PlR_of um l1, L hl', fun k hk => ?_⟩
    obtain ⟨nk, p, q, y1, y2, y3, y4⟩ := l3 k hk
    have q4 : X.ns ≤ 4 := l1.2.1.2.2.2.2.2.1
    have hk' : k < X.ns := hk
    have np : p ≠ 200 ∧ q ≠ 200 := nm_ne (m := 0) y2 (Or.inr (Or.inr (Or.inr g1)))
    have n73 : p ≠ 273 := fun e => by
      obtain ⟨kp, -⟩ := nm_kd y2
      rcases kp with e2 | e2 <;> rw [e, g12] at e2 <;> cases e2
    exact ⟨nk, p, q, by rw [rr _ (by omega) (by omega) (by omega)]; exact y1, str_fr y2 (Fk p y3).1 (Fk q y4).1 ((Fk p y3).2 np.1 n73) (Fm p y3 np.1 (fun x hx => (nm_out y2 (hC x hx).1).1)) (Fm q y4 np.2 (fun x hx => (nm_out y2 (hC x hx).1).2)), by omega, by omega⟩
  · obtain ⟨s1, s2, s3, s4, s5, s6, s7, s8, s9, s10, s11⟩ := TX
    have m4 : h'.mi 274 = h.mi 274 := Fm 274 (by omega) (by omega) (fun x hx => by
      have := (hC x hx).2.1
      omega)
    have mv : h'.mi v = h.mi v := by
      refine Fm v s9 (by omega) (fun x hx => st_out (a := v) (hC x hx).1 (by rw [s3]; exact fun z => by cases z) (by rw [s3]; exact fun z => by cases z) (by rw [s3]; exact fun z => by cases z) (fun n => by rw [s3]; exact fun z => by cases z))
    exact ⟨by rw [kk 274 (by decide)]; exact s1, by rw [rr 274 (by decide) (by decide) (by decide)]; exact s2, by rw [(Fk v s9).1]; exact s3, by rw [m4]; exact s4, by rw [m4]; exact s5, s6, s7, s8, by omega, by omega, fun k hk => by rw [mv]; exact s11 k hk⟩
end CH
/-- what the class's part of a call may not touch -/
def CW (h h1 : Mm) : Prop := (∀ a, a < 200 → h1.kd a = h.kd a ∧ h1.mi a = h.mi a ∧ h1.mr a = h.mr a) ∧ (∀ a, 277 ≤ a → a ≤ 290 → h1.kd a = h.kd a ∧ h1.mr a = h.mr a ∧ h1.mi a = h.mi a ∧ h1.ml a = h.ml a) ∧ h1.nc ≤ h.nc + 600 ∧ h1.ns ≤ h.ns + 3000
theorem rm_1 (c : Nat) : 1000 + 700 * c + 600 ≤ 1000 + 700 * (c + 1) := by omega
theorem rm_2 (c : Nat) : 40000 + 4000 * c + 3000 ≤ 40000 + 4000 * (c + 1) := by omega
section CWs
variable {h0 h h1 h1' h2 : Mm} {c : Nat} {X X' : WX} {u d b cc v cap sc len u' d' b' cc' v' cap' : Nat}
theorem MIw_cw (M : MIw X h) (W : CW h h1) (l : h1' = h1 ∨ ∃ w, h1' = h1.sl 290 0 w) : MIw X h1' := by
  obtain ⟨-, Fk, -⟩ := W
  have M1 : MIw X h1 := MIw_fn M ⟨fun a x y => ⟨(Fk a x (by omega)).1, (Fk a x (by omega)).2.1⟩, fun j _ => by rw [(Fk 277 (by decide) (by decide)).2.2.1], ⟨(Fk 278 (by decide) (by decide)).2.2.1, (Fk 279 (by decide) (by decide)).2.2.1, (Fk 283 (by decide) (by decide)).2.2.1, (Fk 286 (by decide) (by decide)).2.2.1, (Fk 287 (by decide) (by decide)).2.2.1, (Fk 289 (by decide) (by decide)).2.2.1⟩, (Fk 281 (by decide) (by decide)).2.2.2⟩
  rcases l with rfl | ⟨w, rfl⟩
  · exact M1
  · exact MIw_fn M1 ⟨fun _ _ _ => ⟨rfl, rfl⟩, fun _ _ => rfl, ⟨rfl, rfl, rfl, rfl, rfl, rfl⟩, z2_o (R := h1.ml) (o := 290) (k := 0) (v := w) (q := 281) (by decide)⟩
theorem in_w (I : IN6 h0 c X u d b cc v cap h) (Sa : STA h0 sc len) (W : CW h h1) (l : h1' = h1 ∨ ∃ w, h1' = h1.sl 290 0 w) : MIw X h1' ∧ MO h1' ∧ h1'.kd sc = some (.inr (.array .int, len)) ∧ h1'.mi sc = h.mi sc ∧ h1'.kd 277 = some (.inl 8) ∧ (∀ a, 277 ≤ a → a ≤ 289 → h1'.mi a = h.mi a) ∧ h1.kd 290 = some (.inr (.long, 1)) := by
  have M := I.2.2.1
  have Z := I.2.2.2.1
  have k9 := I.2.2.2.2.2
  have M1 := MIw_cw M W l
  have hs := Sa.2.2.2.2.2.1
  obtain ⟨Wl, Wm, -⟩ := W
  have e : h1'.kd = h1.kd ∧ h1'.mi = h1.mi := by
    rcases l with rfl | ⟨w, rfl⟩
    · exact ⟨rfl, rfl⟩
    · exact ⟨rfl, rfl⟩
  refine ⟨M1, M1.1, ?_, ?_, mk_277 M1.1, fun a x y => ?_, (Wm 290 (by decide) (by decide)).1.trans k9⟩
  · rw [e.1, (Wl sc hs).1]
    exact (Z sc hs).1.trans Sa.2.2.2.2.2.2.1
  · rw [e.2]
    exact (Wl sc hs).2.1
  · rw [e.2]
    exact (Wm a x (by omega)).2.2.1
theorem in_ch (I : IN6 h0 c X u d b cc v cap h) (W : CW h h1) (A : CIw X' u' d' b' cc' v' cap' h1) (l : h1' = h1 ∨ ∃ w, h1' = h1.sl 290 0 w) (N : FrM h1' h2) (MM : MIw X' h2) (xo : XOk (c + 1) X') : INV h0 (c + 1) h2 ∧ h2.kd 277 = some (.inl 8) ∧ h2.kd 290 = some (.inr (.long, 1)) ∧ MO h2 := by
  have M := I.2.2.1
  have Z := I.2.2.2.1
  have k9 := I.2.2.2.2.2
  have R := I.2.2.2.2.1
  have M1 := MIw_cw M W l
  have M10 := MIw_cw M W (Or.inl rfl)
  obtain ⟨Wl, Wm, f1, f2⟩ := W
  have k91 : h1.kd 290 = some (.inr (.long, 1)) := (Wm 290 (by decide) (by decide)).1.trans k9
  have A1 : CIw X' u' d' b' cc' v' cap' h1' := by
    rcases l with rfl | ⟨w, rfl⟩
    · exact A
    · exact CIw_fq A M10.1 k91 FQ.sl
  have e : h1'.kd = h1.kd ∧ h1'.mi = h1.mi ∧ h1'.mr = h1.mr ∧ h1'.nc = h1.nc ∧ h1'.ns = h1.ns := by
    rcases l with rfl | ⟨w, rfl⟩
    · exact ⟨rfl, rfl, rfl, rfl, rfl⟩
    · exact ⟨rfl, rfl, rfl, rfl, rfl⟩
  have k92 : h2.kd 290 = some (.inr (.long, 1)) := by rw [N.2.1, e.1]; exact k91
  have e1 := N.1
  have en : h2.nc = h1'.nc := by
    show h2.1.2.1 = h1'.1.2.1
    rw [e1]
  have es : h2.ns = h1'.ns := by
    show h2.1.2.2 = h1'.1.2.2
    rw [e1]
  refine ⟨⟨X', u', d', b', cc', v', cap', xo, CIw_fq A1 M1.1 (by rw [e.1]; exact k91) (FQ.fm N), MM, fun a ha => ?_, ⟨?_, ?_⟩, k92⟩, mk_277 MM.1, k92, MM.1⟩
  · obtain ⟨z1, z2, z3⟩ := Z a ha
    obtain ⟨y1, y2, y3⟩ := Wl a ha
    refine ⟨by rw [N.2.1, e.1]; exact y1.trans z1, ?_, by rw [N.2.2.1, e.2.2.1]; exact y3.trans z3⟩
    rw [(N.2.2.2 a (by omega)).1, e.2.1]
    exact y2.trans z2
  · rw [en, e.2.2.2.1]
    exact Nat.le_trans f1 (Nat.le_trans (Nat.add_le_add_right R.1 600) (rm_1 c))
  · rw [es, e.2.2.2.2]
    exact Nat.le_trans f2 (Nat.le_trans (Nat.add_le_add_right R.2 3000) (rm_2 c))
theorem CW.tr (A : CW h h1) (B : CW h1 h2) (hn : h2.nc ≤ h.nc + 600) (hs : h2.ns ≤ h.ns + 3000) : CW h h2 := by
  refine ⟨fun a ha => ?_, fun a x y => ?_, hn, hs⟩
  · obtain ⟨a1, a2, a3⟩ := A.1 a ha
    obtain ⟨b1, b2, b3⟩ := B.1 a ha
    exact ⟨b1.trans a1, b2.trans a2, b3.trans a3⟩
  · obtain ⟨a1, a2, a3, a4⟩ := A.2.1 a x y
    obtain ⟨b1, b2, b3, b4⟩ := B.2.1 a x y
    exact ⟨b1.trans a1, b2.trans a2, b3.trans a3, b4.trans a4⟩
theorem CW.sb {Q : Nat → Nat → Int32} (B : 216 ≤ b ∧ b + 19 ≤ 273 ∨ 291 ≤ b) : CW h (h.sb b Q) := ⟨fun a ha => ⟨rfl, mi_sbo (by omega), rfl⟩, fun a x y => ⟨rfl, rfl, mi_sbo (by omega), rfl⟩, Nat.le_add_right _ _, Nat.le_add_right _ _⟩
theorem CW.si {k : Nat} {w : Int32} : CW h (h.si 200 k w) := ⟨fun a ha => ⟨rfl, mi_sa (by omega), rfl⟩, fun a x y => ⟨rfl, rfl, mi_sa (by omega), rfl⟩, Nat.le_add_right _ _, Nat.le_add_right _ _⟩
end CWs
