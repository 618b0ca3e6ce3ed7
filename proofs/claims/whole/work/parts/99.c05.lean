-- ===== a question: class, then model =====
/-- the model's cells that matter -/
def FN (h h' : Mm) : Prop := (∀ a, 277 ≤ a → a ≤ 289 → h'.kd a = h.kd a ∧ h'.mr a = h.mr a) ∧ (∀ j, j = 2 ∨ j = 5 ∨ j = 6 ∨ j = 20 ∨ j = 21 ∨ j = 22 ∨ j = 26 → h'.mi 277 j = h.mi 277 j) ∧ (h'.mi 278 = h.mi 278 ∧ h'.mi 279 = h.mi 279 ∧ h'.mi 283 = h.mi 283 ∧ h'.mi 286 = h.mi 286 ∧ h'.mi 287 = h.mi 287 ∧ h'.mi 289 = h.mi 289) ∧ h'.ml 281 = h.ml 281
theorem MO_of {h h' : Mm} (e : ∀ a, 277 ≤ a → a ≤ 289 → h'.kd a = h.kd a ∧ h'.mr a = h.mr a) (M : MO h) : MO h' := by
  unfold MO
  rw [(e 277 (by decide) (by decide)).1, (e 278 (by decide) (by decide)).1, (e 279 (by decide) (by decide)).1, (e 280 (by decide) (by decide)).1, (e 281 (by decide) (by decide)).1, (e 282 (by decide) (by decide)).1, (e 283 (by decide) (by decide)).1, (e 284 (by decide) (by decide)).1, (e 285 (by decide) (by decide)).1, (e 286 (by decide) (by decide)).1, (e 287 (by decide) (by decide)).1, (e 288 (by decide) (by decide)).1, (e 289 (by decide) (by decide)).1, (e 277 (by decide) (by decide)).2]
  exact M
theorem MIw_fn {X : WX} {h h' : Mm} (A : MIw X h) (F : FN h h') : MIw X h' := by
  obtain ⟨M, ⟨f1, f2, f3, f4, f5, f6, f7, f8⟩, L, V, Hj, P, L0⟩ := A
  obtain ⟨k, fi, ⟨r1, r2, r3, r4, r5, r6⟩, l⟩ := F
  refine ⟨MO_of k M, ⟨by rw [fi 2 (by omega)]; exact f1, by rw [r1]; exact f2, by rw [fi 5 (by omega)]; exact f3, by rw [fi 6 (by omega)]; exact f4, by rw [fi 21 (by omega)]; exact f5, by rw [fi 22 (by omega)]; exact f6, by rw [fi 20 (by omega)]; exact f7, by rw [fi 26 (by omega)]; exact f8⟩, fun hl => ?_, fun hs => ?_, fun j hj => ?_, by rw [r6]; exact P, by rw [r2, r3]; exact L0⟩
  · rw [r2, r3, l]
    exact L hl
  · rw [r5]
    exact V hs
  · rw [r4]
    exact Hj j hj
def CQ (c : Nat) (h h1 : Mm) : Prop := FQ c h h1 ∧ (∀ a, 277 ≤ a → a ≤ 290 → h1.kd a = h.kd a ∧ h1.mr a = h.mr a ∧ h1.mi a = h.mi a ∧ h1.ml a = h.ml a) ∧ h1.nc ≤ h.nc + 600 ∧ h1.ns ≤ h.ns + 3000
def MQw (h h2 : Mm) : Prop := FrM h h2 ∧ FN h h2
theorem CQ.rf {c : Nat} {h : Mm} : CQ c h h := ⟨FQ.rf, fun _ _ _ => ⟨rfl, rfl, rfl, rfl⟩, Nat.le_add_right _ _, Nat.le_add_right _ _⟩
theorem CQ.thr {c : Nat} {h : Mm} : CQ c h h.thr := ⟨FQ.thr, fun _ _ _ => ⟨rfl, rfl, rfl, rfl⟩, by show h.nc + 1 ≤ _; omega, by show h.ns + 6 ≤ _; omega⟩
theorem CQ.sb {c : Nat} {h : Mm} {Q : Nat → Nat → Int32} (hc : c + 19 ≤ 273 ∨ 291 ≤ c) : CQ c h (h.sb c Q) := ⟨FQ.sb, fun a h1 h2 => ⟨rfl, rfl, mi_sbo (by omega), rfl⟩, Nat.le_add_right _ _, Nat.le_add_right _ _⟩
theorem CQ.w6 {c : Nat} {h : Mm} {W : Nat → Int32} : CQ c h (h.sw 276 W) := ⟨FQ.w6, fun a h1 h2 => ⟨rfl, rfl, mi_swo (by omega), rfl⟩, Nat.le_add_right _ _, Nat.le_add_right _ _⟩
theorem MQw.t {h : Mm} {x : Int32} : MQw h (h.si 277 0 x) := by
  refine ⟨FrM.si (by decide) (by decide), fun _ _ _ => ⟨rfl, rfl⟩, fun j hj => mi_sk (by omega), ⟨mi_sa (by decide), mi_sa (by decide), mi_sa (by decide), mi_sa (by decide), mi_sa (by decide), mi_sa (by decide)⟩, rfl⟩
theorem MQw.w {h : Mm} {a : Nat} {W : Nat → Int32} (ha : a = 285 ∨ a = 288) : MQw h (h.sw a W) := by
  rcases ha with rfl | rfl
  · exact ⟨FrM.sw (by decide) (by decide), fun _ _ _ => ⟨rfl, rfl⟩, fun j hj => by rw [mi_swo (by decide)], ⟨mi_swo (by decide), mi_swo (by decide), mi_swo (by decide), mi_swo (by decide), mi_swo (by decide), mi_swo (by decide)⟩, rfl⟩
  · exact ⟨FrM.sw (by decide) (by decide), fun _ _ _ => ⟨rfl, rfl⟩, fun j hj => by rw [mi_swo (by decide)], ⟨mi_swo (by decide), mi_swo (by decide), mi_swo (by decide), mi_swo (by decide), mi_swo (by decide), mi_swo (by decide)⟩, rfl⟩
theorem FN.tr {h h1 h2 : Mm} (A : FN h h1) (B : FN h1 h2) : FN h h2 := by
  obtain ⟨a1, a2, ⟨r1, r2, r3, r4, r5, r6⟩, a4⟩ := A
  obtain ⟨b1, b2, ⟨s1, s2, s3, s4, s5, s6⟩, b4⟩ := B
  exact ⟨fun a x y => ⟨(b1 a x y).1.trans (a1 a x y).1, (b1 a x y).2.trans (a1 a x y).2⟩, fun j hj => (b2 j hj).trans (a2 j hj), ⟨s1.trans r1, s2.trans r2, s3.trans r3, s4.trans r4, s5.trans r5, s6.trans r6⟩, b4.trans a4⟩
theorem MQw.tr {h h1 h2 : Mm} (A : MQw h h1) (B : MQw h1 h2) : MQw h h2 := ⟨A.1.tr B.1, A.2.tr B.2⟩
/-- all that is kept, with its names -/
def IN6 (h0 : Mm) (c : Nat) (X : WX) (u d b cc v cap : Nat) (h : Mm) : Prop := XOk c X ∧ CIw X u d b cc v cap h ∧ MIw X h ∧ SM h0 h ∧ RM c h ∧ h.kd 290 = some (.inr (.long, 1))
section Q6
variable {h0 h h1 h1' h2 : Mm} {c : Nat} {X : WX} {u d b cc v cap sc len : Nat}
/-- after the class's part -/
theorem in_c (I : IN6 h0 c X u d b cc v cap h) (F : CQ cc h h1) (l : h1' = h1 ∨ ∃ w, h1' = h1.sl 290 0 w) : CIw X u d b cc v cap h1' ∧ MIw X h1' ∧ SM h0 h1' ∧ h1'.kd 290 = some (.inr (.long, 1)) ∧ h1'.nc ≤ h.nc + 600 ∧ h1'.ns ≤ h.ns + 3000 := by
  obtain ⟨-, A, M, Z, -, k9⟩ := I
  obtain ⟨Fq, Fk, f1, f2⟩ := F
  have A1 := CIw_fq A M.1 k9 Fq
  have hz : 291 ≤ h.sz := A.2.1.2.2.2.2.2
  have hc : 216 ≤ cc := by
    obtain ⟨z, -⟩ := A.2.1.2.1
    omega
  have M1 : MIw X h1 := MIw_fn M ⟨fun a x y => ⟨(Fk a x (by omega)).1, (Fk a x (by omega)).2.1⟩, fun j _ => by rw [(Fk 277 (by decide) (by decide)).2.2.1], ⟨(Fk 278 (by decide) (by decide)).2.2.1, (Fk 279 (by decide) (by decide)).2.2.1, (Fk 283 (by decide) (by decide)).2.2.1, (Fk 286 (by decide) (by decide)).2.2.1, (Fk 287 (by decide) (by decide)).2.2.1, (Fk 289 (by decide) (by decide)).2.2.1⟩, (Fk 281 (by decide) (by decide)).2.2.2⟩
  have Z1 : SM h0 h1 := fun a ha => by
    obtain ⟨z1, z2, z3⟩ := Z a ha
    obtain ⟨y1, y2⟩ := Fq.2.1 a (by omega)
    exact ⟨y1.trans z1, (Fq.2.2 a (by omega) (by omega) (by omega) (by omega)).trans z2, y2.trans z3⟩
  have k91 : h1.kd 290 = some (.inr (.long, 1)) := (Fk 290 (by decide) (by decide)).1.trans k9
  rcases l with rfl | ⟨w, rfl⟩
  · exact ⟨A1, M1, Z1, k91, f1, f2⟩
  · have M2 : MIw X (h1.sl 290 0 w) := MIw_fn M1 ⟨fun _ _ _ => ⟨rfl, rfl⟩, fun _ _ => rfl, ⟨rfl, rfl, rfl, rfl, rfl, rfl⟩, z2_o (R := h1.ml) (o := 290) (k := 0) (v := w) (q := 281) (by decide)⟩
    exact ⟨CIw_fq A1 M1.1 k91 FQ.sl, M2, Z1, k91, f1, f2⟩
theorem xok_s (A : XOk c X) : XOk (c + 1) X := by
  obtain ⟨a1, a2, a3, a4, a5, a6, a7, b1, b2, b3⟩ := A
  exact ⟨a1, a2, a3, by omega, by omega, fun j hj => by have := a6 j hj; omega, a7, fun z => ql_up (by omega) (b1 z), fun z => ql_up (by omega) (b2 z), fun j hj => ql_up (by omega) (b3 j hj)⟩
theorem in_cm (I : IN6 h0 c X u d b cc v cap h) (F : CQ cc h h1) (l : h1' = h1 ∨ ∃ w, h1' = h1.sl 290 0 w) (N : MQw h1' h2) : INV h0 (c + 1) h2 ∧ h2.kd 277 = some (.inl 8) ∧ h2.kd 290 = some (.inr (.long, 1)) ∧ MO h2 := by
  obtain ⟨A1, M1, Z1, k91, f1, f2⟩ := in_c I F l
  obtain ⟨Nf, Nn⟩ := N
  have M2 := MIw_fn M1 Nn
  have k92 : h2.kd 290 = some (.inr (.long, 1)) := by rw [Nf.2.1]; exact k91
  have e1 := Nf.1
  have en : h2.nc = h1'.nc := by
    show h2.1.2.1 = h1'.1.2.1
    rw [e1]
  have es : h2.ns = h1'.ns := by
    show h2.1.2.2 = h1'.1.2.2
    rw [e1]
  have R := I.2.2.2.2.1
  refine ⟨⟨X, u, d, b, cc, v, cap, xok_s I.1, CIw_fq A1 M1.1 k91 (FQ.fm Nf), M2, fun a ha => ?_, ⟨?_, ?_⟩, k92⟩, mk_277 M2.1, k92, M2.1⟩
  · obtain ⟨z1, z2, z3⟩ := Z1 a ha
    exact ⟨by rw [Nf.2.1]; exact z1, (Nf.2.2.2 a (by omega)).1.trans z2, by rw [Nf.2.2.1]; exact z3⟩
  · have := R.1
    omega
  · have := R.2
    omega
end Q6
