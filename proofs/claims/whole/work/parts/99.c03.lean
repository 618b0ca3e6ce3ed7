-- ===== what the law's loop keeps =====
/-- one state: items, time, the model's row -/
abbrev Sz1 : Type := Nat × Nat × (Nat → Int32)
/-- buffer; error; a plan: species, stops, due, row, names -/
abbrev WX : Type := (Nat × (Nat → Nat)) × (Int32 × Int32) × (Bool × Bool × Nat) × ((Nat × Nat × Nat) × (Nat → Int32) × (Nat → Nat × (Nat → Nat))) × Sz1 × Sz1 × (Nat → Sz1) × Tt
def WX.mb (X : WX) : Nat := X.1.1
def WX.T (X : WX) : Nat → Nat := X.1.2
def WX.er (X : WX) : Int32 := X.2.1.1
def WX.ep (X : WX) : Int32 := X.2.1.2
def WX.ld (X : WX) : Bool := X.2.2.1.1
def WX.sv (X : WX) : Bool := X.2.2.1.2.1
def WX.nu (X : WX) : Nat := X.2.2.1.2.2
def WX.ns (X : WX) : Nat := X.2.2.2.1.1.1
def WX.st (X : WX) : Nat := X.2.2.2.1.1.2.1
def WX.du (X : WX) : Nat := X.2.2.2.1.1.2.2
def WX.pl (X : WX) : Nat → Int32 := X.2.2.2.1.2.1
def WX.nm (X : WX) : Nat → Nat × (Nat → Nat) := X.2.2.2.1.2.2
def WX.cu (X : WX) : Sz1 := X.2.2.2.2.1
def WX.sd (X : WX) : Sz1 := X.2.2.2.2.2.1
def WX.hi (X : WX) : Nat → Sz1 := X.2.2.2.2.2.2.1
def WX.tx (X : WX) : Tt := X.2.2.2.2.2.2.2
/-- rows of a block are the state -/
def RSx (X : WX) (R : Nat → Nat → Int32) (s : Sz1) : Prop := RS X.ns X.du s.1 s.2.1 R s.2.2
def QX (c : Nat) (X : WX) : Prop := (X.ld = true → QL (1000000 * (c + 1)) X.ns X.cu.2.2) ∧ (X.sv = true → QL (1000000 * (c + 1)) X.ns X.sd.2.2) ∧ ∀ j, j < X.nu → QL (1000000 * (c + 1)) X.ns (X.hi j).2.2
def XOk (c : Nat) (X : WX) : Prop := X.mb ≤ 1500 ∧ X.nu ≤ 8 ∧ (X.ld = false → X.sv = false ∧ X.nu = 0) ∧ X.cu.2.1 ≤ 100 * c ∧ X.sd.2.1 ≤ 100 * c ∧ (∀ j, j < X.nu → (X.hi j).2.1 ≤ 100 * c) ∧ X.tx.1 ≤ 300 ∧ QX c X
def BK (h : Mm) (b : Nat) : Prop := (216 ≤ b ∧ b + 19 ≤ 273 ∨ 291 ≤ b) ∧ b + 19 ≤ h.sz
def NMc (h : Mm) (u ns : Nat) (nm : Nat → Nat × (Nat → Nat)) : Prop := ∀ k, k < ns → nmO (nm k) ∧ ∃ p q, h.mr (u + 3 + k) 0 = some p ∧ STR h p q (nm k).1 (nm k).2 ∧ p < h.sz ∧ q < h.sz
/-- the states that the history holds -/
def HIc (h : Mm) (b c : Nat) : Prop := (∀ j x, j < 8 → h.mr 273 j = some x → ST h x ∧ BK h x ∧ x ≠ b ∧ x ≠ c ∧ x ≠ 254) ∧ ∀ j j' x, j < 8 → j' < 8 → h.mr 273 j = some x → h.mr 273 j' = some x → j = j'
def CIw (X : WX) (u d b c v cap : Nat) (h : Mm) : Prop := (GO h u d b c ∧ (u = 202 ∧ d = 209 ∨ u = 209 ∧ d = 202) ∧ SU h u ∧ SU h d ∧ ST h b ∧ ST h c ∧ ST h 254) ∧ (BK h b ∧ BK h c ∧ b ≠ c ∧ b ≠ 254 ∧ c ≠ 254 ∧ 291 ≤ h.sz) ∧ HIc h b c ∧ (h.mi 200 1 = Int32.ofNat X.mb ∧ CBt (h.mi 201) X.mb X.T ∧ h.mi 200 2 = X.er ∧ h.mi 200 3 = X.ep ∧ h.mi 200 4 = b2i X.ld ∧ h.mi 200 9 = b2i X.sv ∧ h.mi 200 11 = Int32.ofNat X.nu ∧ X.nu ≤ 8) ∧ (X.ld = true → PlR X.ns X.st X.du (rowsAt h u) X.pl ∧ RSx X (rowsAt h b) X.cu ∧ NMc h u X.ns X.nm) ∧ (X.sv = true → RSx X (rowsAt h 254) X.sd) ∧ (∀ j, j < X.nu → ∃ x, h.mr 273 j = some x ∧ RSx X (rowsAt h x) (X.hi j)) ∧ (SBx h 274 v cap X.tx.1 X.tx.2 ∧ (v = 275 ∨ 291 ≤ v) ∧ 16 ≤ cap)
def MIw (X : WX) (h : Mm) : Prop := MO h ∧ (h.mi 277 2 = Int32.ofNat X.mb ∧ CMt (h.mi 278) X.mb X.T ∧ h.mi 277 5 = X.er ∧ h.mi 277 6 = X.ep ∧ h.mi 277 21 = b2i X.ld ∧ h.mi 277 22 = b2i X.sv ∧ h.mi 277 20 = Int32.ofNat X.nu ∧ h.mi 277 26 = Int32.ofNat X.tx.1) ∧ (X.ld = true → h.mi 279 = X.pl ∧ h.mi 283 = X.cu.2.2 ∧ NMM (h.ml 281) X.ns X.nm) ∧ (X.sv = true → ∀ a, a < 1168 → h.mi 287 a = X.sd.2.2 a) ∧ (∀ j, j < X.nu → ∀ a, a < 1168 → h.mi 286 (1168 * j + a) = (X.hi j).2.2 a) ∧ PgR (h.mi 289) X.tx.1 X.tx ∧ (X.ld = false → (∀ a, h.mi 283 a = 0) ∧ ∀ a, h.mi 279 a = 0)
/-- cells below 200 are as at the start -/
def SM (h0 h : Mm) : Prop := ∀ a, a < 200 → h.kd a = h0.kd a ∧ h.mi a = h0.mi a ∧ h.mr a = h0.mr a
def RM (c : Nat) (h : Mm) : Prop := h.nc ≤ 1000 + 700 * c ∧ h.ns ≤ 40000 + 4000 * c
def STA (h0 : Mm) (sc len : Nat) : Prop := WRD h0 ∧ DIG h0 ∧ WST h0 ∧ WMD h0 ∧ WSM h0 ∧ sc < 200 ∧ h0.kd sc = some (.inr (.array .int, len)) ∧ len ≤ 3072
def INV (h0 : Mm) (c : Nat) (h : Mm) : Prop := ∃ X u d b cc v cap, XOk c X ∧ CIw X u d b cc v cap h ∧ MIw X h ∧ SM h0 h ∧ RM c h ∧ h.kd 290 = some (.inr (.long, 1))
section SMs
variable {h0 h : Mm}
theorem sm_str {p q m : Nat} {ch : Nat → Nat} (A : SM h0 h) (S : STR h0 p q m ch) (hp : p < 200) (hq : q < 200) : STR h p q m ch := by
  obtain ⟨a1, a2, a3⟩ := A p hp
  obtain ⟨b1, b2, b3⟩ := A q hq
  obtain ⟨s1, s2, s3, s4, s5⟩ := S
  refine ⟨by rw [a3]; exact s1, by rw [a2]; exact s2, by rw [a1, b1]; exact s3, s4, fun k hk => by rw [b2]; exact s5 k hk⟩
theorem sm_wrd (A : SM h0 h) (W : WRD h0) : WRD h := by
  obtain ⟨w1, w2, w3⟩ := W
  refine ⟨fun i hi => ?_, by rw [(A 91 (by decide)).1]; exact w2, fun i hi => by rw [(A 91 (by decide)).2.2]; exact w3 i hi⟩
  obtain ⟨x1, x2, x3⟩ := w1 i hi
  exact ⟨by rw [(A _ (by omega)).1]; exact x1, by rw [(A _ (by omega)).2.2]; exact x2, sm_str A x3 (by omega) (by omega)⟩
theorem sm_dig (A : SM h0 h) (D : DIG h0) : DIG h := by
  unfold DIG
  rw [(A 92 (by decide)).1, (A 93 (by decide)).1, (A 92 (by decide)).2.1, (A 93 (by decide)).2.1]
  exact D
theorem sm_wst (A : SM h0 h) (D : WST h0) : WST h := ⟨sm_str A D.1 (by decide) (by decide), sm_str A D.2.1 (by decide) (by decide), sm_str A D.2.2 (by decide) (by decide)⟩
theorem sm_wsm (A : SM h0 h) (D : WSM h0) : WSM h := ⟨sm_str A D.1 (by decide) (by decide), sm_str A D.2.1 (by decide) (by decide), sm_str A D.2.2 (by decide) (by decide)⟩
theorem sm_wmd (A : SM h0 h) (W : WMD h0) : WMD h := by
  have hm : ∀ i, i < 15 → mI i + 1 < 200 := fun i hi => by
    unfold mI
    split <;> omega
  refine ⟨fun i hi => ⟨sm_str A (W.1 i hi).1 (by have := hm i hi; omega) (hm i hi), ?_⟩, sm_str A W.2.1 (by decide) (by decide), ?_⟩
  · rw [(A _ (by have := hm i hi; omega)).1]
    exact (W.1 i hi).2
  · rw [(A 24 (by decide)).1]
    exact W.2.2
end SMs
/-- kinds of a block's cells -/
theorem st_kk {h : Mm} {b o : Nat} (S : ST h b) (ho : o < 19) : (o = 0 ∧ h.kd (b + o) = some (.inl 5)) ∨ (0 < o ∧ ((∃ n, h.kd (b + o) = some (.inr (.int, n))) ∨ h.kd (b + o) = some (.inl 1) ∨ h.kd (b + o) = some (.inl 0))) := by
  have : o = 0 ∨ o = 1 ∨ o = 2 ∨ o = 3 ∨ o = 4 ∨ o = 5 ∨ o = 6 ∨ o = 7 ∨ o = 8 ∨ o = 9 ∨ o = 10 ∨ o = 11 ∨ o = 12 ∨ o = 13 ∨ o = 14 ∨ o = 15 ∨ o = 16 ∨ o = 17 ∨ o = 18 := by omega
  rcases this with rfl | rfl | rfl | rfl | rfl | rfl | rfl | rfl | rfl | rfl | rfl | rfl | rfl | rfl | rfl | rfl | rfl | rfl | rfl
  · exact Or.inl ⟨rfl, st_k S⟩
  · exact Or.inr ⟨by decide, Or.inl ⟨_, st_k1 S⟩⟩
  · exact Or.inr ⟨by decide, Or.inl ⟨_, st_k2 S⟩⟩
  · exact Or.inr ⟨by decide, Or.inl ⟨_, st_k3 S⟩⟩
  · exact Or.inr ⟨by decide, Or.inl ⟨_, st_k4 S⟩⟩
  · exact Or.inr ⟨by decide, Or.inl ⟨_, st_k5 S⟩⟩
  · exact Or.inr ⟨by decide, Or.inl ⟨_, st_k6 S⟩⟩
  · exact Or.inr ⟨by decide, Or.inr (Or.inl (st_ki S))⟩
  · exact Or.inr ⟨by decide, Or.inl ⟨_, st_k8 S⟩⟩
  · exact Or.inr ⟨by decide, Or.inl ⟨_, st_k9 S⟩⟩
  · exact Or.inr ⟨by decide, Or.inl ⟨_, st_k10 S⟩⟩
  · exact Or.inr ⟨by decide, Or.inl ⟨_, st_k11 S⟩⟩
  · exact Or.inr ⟨by decide, Or.inl ⟨_, st_k12 S⟩⟩
  · exact Or.inr ⟨by decide, Or.inr (Or.inr (st_kb S))⟩
  · exact Or.inr ⟨by decide, Or.inl ⟨_, st_k14 S⟩⟩
  · exact Or.inr ⟨by decide, Or.inl ⟨_, st_k15 S⟩⟩
  · exact Or.inr ⟨by decide, Or.inl ⟨_, st_k16 S⟩⟩
  · exact Or.inr ⟨by decide, Or.inl ⟨_, st_k17 S⟩⟩
  · exact Or.inr ⟨by decide, Or.inl ⟨_, st_k18 S⟩⟩
/-- a cell of another kind lies outside the block -/
theorem st_out {h : Mm} {b a : Nat} (S : ST h b) (h5 : h.kd a ≠ some (.inl 5)) (h1 : h.kd a ≠ some (.inl 1)) (h0 : h.kd a ≠ some (.inl 0)) (hi : ∀ n, h.kd a ≠ some (.inr (.int, n))) : a < b ∨ b + 19 ≤ a := by
  by_cases c : b ≤ a ∧ a < b + 19
  · rcases st_kk S (o := a - b) (by omega) with ⟨-, e⟩ | ⟨-, ⟨n, e⟩ | e | e⟩
    · rw [show b + (a - b) = a by omega] at e; exact absurd e h5
    · rw [show b + (a - b) = a by omega] at e; exact absurd e (hi n)
    · rw [show b + (a - b) = a by omega] at e; exact absurd e h1
    · rw [show b + (a - b) = a by omega] at e; exact absurd e h0
  · omega
/-- two states are apart -/
theorem st_dis {h : Mm} {b x : Nat} (S : ST h b) (S2 : ST h x) (hn : b ≠ x) : b + 19 ≤ x ∨ x + 19 ≤ b := by
  have k1 := st_k S
  have k2 := st_k S2
  by_cases c : b ≤ x ∧ x < b + 19
  · rcases st_kk S (o := x - b) (by omega) with ⟨e, -⟩ | ⟨-, ⟨n, e⟩ | e | e⟩
    · omega
    · rw [show b + (x - b) = x by omega, k2] at e; cases e
    · rw [show b + (x - b) = x by omega, k2] at e; cases e
    · rw [show b + (x - b) = x by omega, k2] at e; cases e
  · by_cases c2 : x ≤ b ∧ b < x + 19
    · rcases st_kk S2 (o := b - x) (by omega) with ⟨e, -⟩ | ⟨-, ⟨n, e⟩ | e | e⟩
      · omega
      · rw [show x + (b - x) = b by omega, k1] at e; cases e
      · rw [show x + (b - x) = b by omega, k1] at e; cases e
      · rw [show x + (b - x) = b by omega, k1] at e; cases e
    · omega
