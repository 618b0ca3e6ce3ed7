-- ===== the lines of the text =====
/-- what has been read: plan, draft, names, ice seen, how many stops, species, items -/
abbrev Ps : Type := (Nat → Int32) × (Nat → Int32) × (Nat → Nat × (Nat → Nat)) × Bool × Nat × Nat × Nat
def Ps.pl (q : Ps) : Nat → Int32 := q.1
def Ps.dr (q : Ps) : Nat → Int32 := q.2.1
def Ps.nm (q : Ps) : Nat → Nat × (Nat → Nat) := q.2.2.1
def Ps.ic (q : Ps) : Bool := q.2.2.2.1
def Ps.st (q : Ps) : Nat := q.2.2.2.2.1
def Ps.ns (q : Ps) : Nat := q.2.2.2.2.2.1
def Ps.ni (q : Ps) : Nat := q.2.2.2.2.2.2
section PURE
variable (T : Nat → Nat) (n : Nat)
def pGr (t : Tok) : PE (Ps × Tok) := pB (pKw T n 0 t) fun t1 => pB (pNm T n 1 1 9999 t1) fun a => pB (pNm T n 2 0 99 a.2) fun b => pB (pNm T n 3 0 9999 b.2) fun l => pB (pNm T n 4 0 10 l.2) fun p =>
  .inr ((zu (zu (zu (fun _ => 0) 0 (Int32.ofNat a.1)) 1 (Int32.ofNat b.1)) 2 (Int32.ofNat p.1), zu (fun _ => 0) 2 (Int32.ofNat l.1), fun _ => (0, fun _ => 0), false, 0, 0, 0), p.2)
def pIc (q : Ps) (t : Tok) : PE (Ps × Tok) := if q.ic = true then .inl (4, t.1) else pB (pNu T n 0 200 (tok T n t.2.1)) fun a => pB (pNu T n 0 9999 a.2) fun b => pB (pNu T n 0 99999 b.2) fun e => pB (pNu T n 0 99 e.2) fun f => pB (pNu T n 0 50 f.2) fun g =>
  .inr ((zu (zu (zu (zu (zu q.pl 3 (Int32.ofNat a.1)) 4 (Int32.ofNat b.1)) 5 (Int32.ofNat e.1)) 6 (Int32.ofNat f.1)) 25 (Int32.ofNat g.1), q.dr, q.nm, true, q.st, q.ns, q.ni), g.2)
def pSt (q : Ps) (t : Tok) : PE (Ps × Tok) := if 4 ≤ q.st then .inl (5, t.1) else pB (pNu T n 1 999 (tok T n t.2.1)) fun a => pB (pNu T n a.1 999 a.2) fun b =>
  .inr ((zu (zu (zu q.pl (17 + q.st) (Int32.ofNat a.1)) (21 + q.st) (Int32.ofNat b.1)) 16 (Int32.ofNat (q.st + 1)), q.dr, q.nm, q.ic, q.st + 1, q.ns, q.ni), b.2)
end PURE
theorem pB_l {A B : Type} {e : Nat × Nat} {f : A → PE B} : pB (.inl e) f = .inl e := rfl
theorem pB_r {A B : Type} {a : A} {f : A → PE B} : pB (.inr a) f = f a := rfl
/-- what the parser may do to the memory under it: new names for the draft's species -/
def EXT (d m : Nat) (h h' : Mm) : Prop := h.sz ≤ h'.sz ∧ h'.sz ≤ h.sz + 8 * m ∧ h'.ns ≤ h.ns + 64 * m ∧ h'.nc ≤ h.nc + 8 * m ∧ (∀ a, a < h.sz → h'.kd a = h.kd a ∧ h'.ml a = h.ml a ∧ h'.mi a = h.mi a) ∧ (∀ a f, a < h.sz → (f ≠ 0 ∨ a < d + 3 ∨ d + 7 ≤ a) → h'.mr a f = h.mr a f)
theorem EXT.rf {d m : Nat} {h : Mm} : EXT d m h h := ⟨Nat.le_refl _, Nat.le_add_right _ _, Nat.le_add_right _ _, Nat.le_add_right _ _, fun _ _ => ⟨rfl, rfl, rfl⟩, fun _ _ _ _ => rfl⟩
theorem EXT.tr {d m m' : Nat} {h h' h2 : Mm} (A : EXT d m h h') (B : EXT d m' h' h2) : EXT d (m + m') h h2 := by
  obtain ⟨a1, a2, a3, a4, a5, a6⟩ := A
  obtain ⟨b1, b2, b3, b4, b5, b6⟩ := B
  refine ⟨by omega, by omega, by omega, by omega, fun a ha => ?_, fun a f ha hf => ?_⟩
  · obtain ⟨x1, x2, x3⟩ := a5 a ha
    obtain ⟨y1, y2, y3⟩ := b5 a (by omega)
    exact ⟨y1.trans x1, y2.trans x2, y3.trans x3⟩
  · exact (b6 a f (by omega) hf).trans (a6 a f ha hf)
/-- what the steps keep of the parser's fields -/
def kP (P P' : Nat → Int32) : Prop := P' 3 = P 3 ∧ P' 4 = P 4 ∧ P' 5 = P 5
theorem kP.rf {P : Nat → Int32} : kP P P := ⟨rfl, rfl, rfl⟩
theorem kP.tr {P P' P2 : Nat → Int32} (a : kP P P') (b : kP P' P2) : kP P P2 := ⟨b.1.trans a.1, b.2.1.trans a.2.1, b.2.2.trans a.2.2⟩
theorem kP.of {P P' : Nat → Int32} (k : keepP P P') : kP P P' := ⟨k 3 (by decide), k 4 (by decide), k 5 (by decide)⟩
/-- what the class's draft says of the plan -/
def CA (q : Ps) (D : Nat → Nat → Int32) : Prop := (q.st ≤ 4 ∧ q.ns ≤ 4 ∧ q.ni ≤ 60 ∧ q.pl 16 = Int32.ofNat q.st ∧ q.pl 7 = Int32.ofNat q.ns ∧ q.dr 9 = Int32.ofNat q.ni) ∧ ((∀ k, k < 7 → D 0 k = q.pl k) ∧ D 0 7 = q.pl 25) ∧ D 0 8 = Int32.ofNat q.st ∧ D 0 11 = Int32.ofNat q.ns ∧ (∀ k, k < q.st → D 1 k = q.pl (17 + k) ∧ D 2 k = q.pl (21 + k)) ∧ (∀ k, k < q.ns → D (3 + k) 1 = q.pl (8 + k) ∧ D (3 + k) 2 = q.pl (12 + k))
/-- .. and of limit, targets, quotas -/
def CB (q : Ps) (R : Nat → Nat → Int32) : Prop := R 0 2 = q.dr 2 ∧ (∀ k, k < q.ns → R 2 k = q.dr (10 + k) ∧ R 3 k = q.dr (14 + k))
/-- .. and of the items -/
def CI (q : Ps) (R : Nat → Nat → Int32) : Prop := R 7 0 = Int32.ofNat q.ni ∧ ∀ i, i < q.ni → R 8 i = q.dr (208 + i) ∧ (∀ k, k < 4 → R 12 (i * 4 + k) = q.dr (368 + 4 * i + k)) ∧ R 9 i = dtF R i (q.pl 1) ∧ R 10 i = 0 ∧ R 11 i = -1
/-- what the draft's clearing has left -/
def CC (R : Nat → Nat → Int32) : Prop := R 0 0 = 0 ∧ R 0 1 = 0 ∧ R 0 3 = 0 ∧ R 0 4 = 0 ∧ R 0 5 = 0 ∧ (∀ k, k < 4 → R 4 k = 0 ∧ R 5 k = 0) ∧ (∀ k, k < 12 → R 6 k = 0) ∧ R 7 1 = 0 ∧ R 13 0 = 0 ∧ R 13 1 = 0
def CRel (q : Ps) (_h : Mm) (P : Nat → Int32) (D R : Nat → Nat → Int32) : Prop := CA q D ∧ CB q R ∧ CI q R ∧ CC R ∧ P 3 = b2i q.ic ∧ P 4 = 0 ∧ P 5 = -1
/-- .. and nothing new was made -/
def CRe (h : Mm) (q : Ps) (h' : Mm) (P : Nat → Int32) (D R : Nat → Nat → Int32) : Prop := CRel q h' P D R ∧ h' = h
/-- after the clearing -/
def CL (D R : Nat → Nat → Int32) (P : Nat → Int32) : Prop := (D 0 3 = 0 ∧ D 0 4 = 0 ∧ D 0 5 = 0 ∧ D 0 6 = 0 ∧ D 0 7 = 0 ∧ D 0 8 = 0 ∧ D 0 11 = 0) ∧ R 7 0 = 0 ∧ CC R ∧ P 3 = 0 ∧ P 4 = 0 ∧ P 5 = -1
theorem i32_lt_lit {a : Nat} {b : Nat} (hb : b < 2147483648) (h : a < b) : Int32.ofNat a < Int32.ofNat b := (i32_lt (by omega) hb).mpr h
theorem g_put_z1 {P : Pg} {y fin nx a b w : Nat} {v : Value} {rs : List Rw} {L : Lc} {st : List Value} {h : Mm} {ix x : Nat} (hk : h.kd x = some (.inl a)) : dn P y ((.putfield ix, nx, a, b, v, .boolean, w) :: rs) fin L (.int 1 :: .ref x :: st) h = dn P y rs fin L st (h.si x b 1) := g_put_z hk (Or.inr rfl)
section PAS
variable {h : Mm} {tk pr d c n : Nat} {T : Nat → Nat} {F P P' : Nat → Int32} {D R : Nat → Nat → Int32} {t : Tok}
def okR (h : Mm) (tk pr d c n m : Nat) {A : Type} (K : A → Mm → (Nat → Int32) → (Nat → Nat → Int32) → (Nat → Nat → Int32) → Prop) (x : PE (A × Tok)) (o : Option Rs) : Prop := match x with
  | .inl e => ∃ h' F' P' D' R', o = some (.inl (some (.int 0)), h'.cp tk pr d c F' P' D' R') ∧ EXT d m h h' ∧ P' 4 = Int32.ofNat e.1 ∧ P' 5 = Int32.ofNat e.2
  | .inr a => ∃ h' F' P' D' R', o = some (.inl (some (.int 1)), h'.cp tk pr d c F' P' D' R') ∧ EXT d m h h' ∧ TK F' n a.2 ∧ tOk n a.2 ∧ K a.1 h' P' D' R'
theorem crel_0 {a b p l : Nat} (C : CL D R P) (h3 : kP P P') : CRel (zu (zu (zu (fun _ => 0) 0 (Int32.ofNat a)) 1 (Int32.ofNat b)) 2 (Int32.ofNat p), zu (fun _ => 0) 2 (Int32.ofNat l), fun _ => (0, fun _ => 0), false, 0, 0, 0) h P' (zu2 (zu2 (zu2 D 0 0 (Int32.ofNat a)) 0 1 (Int32.ofNat b)) 0 2 (Int32.ofNat p)) (zu2 R 0 2 (Int32.ofNat l)) := by
  obtain ⟨⟨d3, d4, d5, d6, d7, d8, d11⟩, r7, ⟨c1, c2, c3, c4, c5, c6, c7, c8, c9, c10⟩, p3⟩ := C
  refine ⟨⟨⟨Nat.zero_le _, Nat.zero_le _, Nat.zero_le _, rfl, rfl, rfl⟩, ⟨fun k hk => ?_, d7⟩, d8, d11, fun k hk => absurd hk (Nat.not_lt_zero _), fun k hk => absurd hk (Nat.not_lt_zero _)⟩, ⟨rfl, fun k hk => absurd hk (Nat.not_lt_zero _)⟩, ⟨r7, fun k hk => absurd hk (Nat.not_lt_zero _)⟩, ⟨c1, c2, c3, c4, c5, c6, c7, c8, c9, c10⟩, h3.1.trans p3.1, h3.2.1.trans p3.2.1, h3.2.2.trans p3.2.2⟩
  have : k = 0 ∨ k = 1 ∨ k = 2 ∨ k = 3 ∨ k = 4 ∨ k = 5 ∨ k = 6 := by omega
  rcases this with rfl | rfl | rfl | rfl | rfl | rfl | rfl
  · rfl
  · rfl
  · rfl
  · exact d3
  · exact d4
  · exact d5
  · exact d6
theorem crel_i {q : Ps} {a b e f g : Nat} (C : CRel q h P D R) (h3 : P' 3 = 1 ∧ P' 4 = P 4 ∧ P' 5 = P 5) : CRel (zu (zu (zu (zu (zu q.pl 3 (Int32.ofNat a)) 4 (Int32.ofNat b)) 5 (Int32.ofNat e)) 6 (Int32.ofNat f)) 25 (Int32.ofNat g), q.dr, q.nm, true, q.st, q.ns, q.ni) h P' (zu2 (zu2 (zu2 (zu2 (zu2 D 0 3 (Int32.ofNat a)) 0 4 (Int32.ofNat b)) 0 5 (Int32.ofNat e)) 0 6 (Int32.ofNat f)) 0 7 (Int32.ofNat g)) R := by
  obtain ⟨⟨⟨i1, i2, i3, i4, i5, i6⟩, ⟨a1, a2⟩, a3, a4, a5, a6⟩, B, ⟨I0, I⟩, c, p3⟩ := C
  refine ⟨⟨⟨i1, i2, i3, i4, i5, i6⟩, ⟨fun k hk => ?_, rfl⟩, a3, a4, fun k hk => ?_, fun k hk => ?_⟩, B, ⟨I0, I⟩, c, h3.1, h3.2.1.trans p3.2.1, h3.2.2.trans p3.2.2⟩
  · have : k = 0 ∨ k = 1 ∨ k = 2 ∨ k = 3 ∨ k = 4 ∨ k = 5 ∨ k = 6 := by omega
    rcases this with rfl | rfl | rfl | rfl | rfl | rfl | rfl
    · exact a1 0 hk
    · exact a1 1 hk
    · exact a1 2 hk
    · rfl
    · rfl
    · rfl
    · rfl
  · have hk : k < q.st := hk
    obtain ⟨x, y⟩ := a5 k hk
    refine ⟨x.trans ?_, y.trans ?_⟩
    · show _ = zu (zu (zu (zu (zu q.pl 3 _) 4 _) 5 _) 6 _) 25 _ (17 + k)
      rw [zu_o (by omega), zu_o (by omega), zu_o (by omega), zu_o (by omega), zu_o (by omega)]
    · show _ = zu (zu (zu (zu (zu q.pl 3 _) 4 _) 5 _) 6 _) 25 _ (21 + k)
      rw [zu_o (by omega), zu_o (by omega), zu_o (by omega), zu_o (by omega), zu_o (by omega)]
  · have hk : k < q.ns := hk
    obtain ⟨x, y⟩ := a6 k hk
    have z : ∀ (f : Nat → Nat → Int32) (j : Nat) (v : Int32), zu2 f 0 j v (3 + k) = f (3 + k) := fun f j v => z2_o (by omega)
    rw [z, z, z, z, z]
    refine ⟨x.trans ?_, y.trans ?_⟩
    · show _ = zu (zu (zu (zu (zu q.pl 3 _) 4 _) 5 _) 6 _) 25 _ (8 + k)
      rw [zu_o (by omega), zu_o (by omega), zu_o (by omega), zu_o (by omega), zu_o (by omega)]
    · show _ = zu (zu (zu (zu (zu q.pl 3 _) 4 _) 5 _) 6 _) 25 _ (12 + k)
      rw [zu_o (by omega), zu_o (by omega), zu_o (by omega), zu_o (by omega), zu_o (by omega)]
def asF (D : Nat → Nat → Int32) (s : Nat) (x w : Int32) : Nat → Nat → Int32 := zu2 (zu2 (zu2 D 1 s x) 2 s w) 0 8 (Int32.ofNat (s + 1))
theorem R_368 : PG.2.1 368 = none := rfl
theorem p_368 {s : Nat} {x w : Int32} (O : PO h tk pr d c) (f8 : D 0 8 = Int32.ofNat s) (hs : s < 4) : dM PG 368 [.ref d, .int x, .int w] (h.cp tk pr d c F P D R) = some (.inl none, h.cp tk pr d c F P (asF D s x w) R) := by
  have J := O.1
  have U : SU h d := O.2.2.2.2.2.2.2.2.1
  rw [dM_of (Nat.le_of_ble_eq_true rfl)]
  have z : ¬ (4 : Int32) ≤ Int32.ofNat s := Int32.not_le.mpr (i32_lt_lit (b := 4) (by omega) hs)
  have b_1 : inb (Int32.ofNat (s)) 4 = true := inb_nat (by omega) (by decide)
  have n_1 : (Int32.ofNat (s)).toNatClampNeg = s := i32_nat (by omega)
  have s1 : Int32.ofNat (s) + 1 = Int32.ofNat (s + 1) := i32_add (b := 1)
  have f8a : zu2 D 1 s x 0 8 = Int32.ofNat s := f8
  have f8b : zu2 (zu2 D 1 s x) 2 s w 0 8 = Int32.ofNat s := f8
  simp -implicitDefEqProofs only [D_368_0, k_368_0, D_368_38, k_368_38, R_368, v_aload_n, g_getfield, sv_i, rf_s, g_getfieldS, g_iconst, g_icmp_ge, sv_a, v_iload_n, v_iastore, wrI_0, g_dup_i, g_dup_r, g_iadd, g_put_i, g_return, entL, getL, setL, kL_i, kL_r, isI_s, isR_s, isJ_s, gV_s, iV_i, cs0, cs1, cs2, cs3, cs4, dn_nil, kd_si, kd_sl, kd_sw, mr_si, mr_sl, mr_sw, ml_si, ml_sw, mi_sl, cp_k, cp_r, su_k U, su_r9 U, su_r10 U, su_k1 U, su_k2 U, cp_0 J, cs_0 J, cs_1 J, cs_2 J, f8, f8a, f8b, ↓if_neg z, if_neg z, b_1, n_1, s1]
  rfl
theorem crel_s {q : Ps} {a b : Nat} (C : CRel q h P D R) (hs : q.st < 4) (h3 : kP P P') : CRel (zu (zu (zu q.pl (17 + q.st) (Int32.ofNat a)) (21 + q.st) (Int32.ofNat b)) 16 (Int32.ofNat (q.st + 1)), q.dr, q.nm, q.ic, q.st + 1, q.ns, q.ni) h P' (asF D q.st (Int32.ofNat a) (Int32.ofNat b)) R := by
  obtain ⟨⟨⟨i1, i2, i3, i4, i5, i6⟩, ⟨a1, a2⟩, a3, a4, a5, a6⟩, B, ⟨I0, I⟩, c, p3⟩ := C
  have z : ∀ j, j < 16 ∨ j = 25 → zu (zu (zu q.pl (17 + q.st) (Int32.ofNat a)) (21 + q.st) (Int32.ofNat b)) 16 (Int32.ofNat (q.st + 1)) j = q.pl j := fun j hj => by
    rw [zu_o (by omega), zu_o (by omega), zu_o (by omega)]
  have z16 : zu (zu (zu q.pl (17 + q.st) (Int32.ofNat a)) (21 + q.st) (Int32.ofNat b)) 16 (Int32.ofNat (q.st + 1)) 16 = Int32.ofNat (q.st + 1) := zu_same
  have w0 : ∀ k, k ≠ 8 → asF D q.st (Int32.ofNat a) (Int32.ofNat b) 0 k = D 0 k := fun k hk => by
    unfold asF
    rw [z2_k hk, z2_o (by decide), z2_o (by decide)]
  refine ⟨⟨⟨hs, i2, i3, z16, (z 7 (by omega)).trans i5, i6⟩, ⟨fun k hk => ?_, ?_⟩, z2_s, ?_, fun k hk => ?_, fun k hk => ?_⟩, B, ⟨I0, fun i hi => ?_⟩, c, h3.1.trans p3.1, h3.2.1.trans p3.2.1, h3.2.2.trans p3.2.2⟩
  · exact ((w0 k (by omega)).trans (a1 k hk)).trans (z k (by omega)).symm
  · exact ((w0 7 (by omega)).trans a2).trans (z 25 (by omega)).symm
  · exact (w0 11 (by omega)).trans a4
  · have hk : k < q.st + 1 := hk
    have e1 : asF D q.st (Int32.ofNat a) (Int32.ofNat b) 1 k = zu (D 1) q.st (Int32.ofNat a) k := by
      unfold asF
      rw [z2_o (by decide), z2_o (by decide)]
      rfl
    have e2 : asF D q.st (Int32.ofNat a) (Int32.ofNat b) 2 k = zu (D 2) q.st (Int32.ofNat b) k := by
      unfold asF
      rw [z2_o (by decide)]
      show zu (zu2 D 1 q.st (Int32.ofNat a) 2) q.st (Int32.ofNat b) k = _
      rw [z2_o (by decide)]
    rw [e1, e2]
    show _ = zu (zu (zu q.pl (17 + q.st) _) (21 + q.st) _) 16 _ (17 + k) ∧ _ = zu (zu (zu q.pl (17 + q.st) _) (21 + q.st) _) 16 _ (21 + k)
    by_cases e : k = q.st
    · rw [e, zu_same, zu_same, zu_o (by omega), zu_o (by omega), zu_same, zu_o (by omega), zu_same]
      exact ⟨rfl, rfl⟩
    · rw [zu_o e, zu_o e, zu_o (by omega), zu_o (by omega), zu_o (by omega), zu_o (by omega), zu_o (by omega), zu_o (by omega)]
      exact a5 k (by omega)
  · have hk : k < q.ns := hk
    have e : asF D q.st (Int32.ofNat a) (Int32.ofNat b) (3 + k) = D (3 + k) := by
      unfold asF
      rw [z2_o (by omega), z2_o (by omega), z2_o (by omega)]
    rw [e]
    obtain ⟨x, y⟩ := a6 k hk
    exact ⟨x.trans (z _ (by omega)).symm, y.trans (z _ (by omega)).symm⟩
  · obtain ⟨x1, x2, x3, x4⟩ := I i hi
    refine ⟨x1, x2, x3.trans ?_, x4⟩
    exact congrArg (dtF R i) (z 1 (by omega)).symm
theorem R_327 : PG.2.1 327 = (some .boolean) := rfl
theorem s_327 (O : PO h tk pr d c) (X : TXT h n T) (W : WRD h) (hF : TK F n t) (hi' : tOk n t) (C : CL D R P) : okR h tk pr d c n 0 (CRe h) (pGr T n t) (dM PG 327 [.ref pr] (h.cp tk pr d c F P D R)) := by
  have J := O.1
  have k1 : h.kd tk = some (.inl 6) := O.2.1
  have k3 : h.kd pr = some (.inl 3) := O.2.2.2.2.1
  have r0 : h.mr pr 0 = some tk := O.2.2.2.2.2.1
  have rd : h.mr pr 1 = some d := O.2.2.2.2.2.2.1
  have rc : h.mr pr 2 = some c := O.2.2.2.2.2.2.2.1
  have U : SU h d := O.2.2.2.2.2.2.2.2.1
  have Sc : ST h c := O.2.2.2.2.2.2.2.2.2.1
  have kd := su_k U
  have kc := st_k Sc
  unfold pGr
  obtain ⟨w76, -⟩ := W.1 0 (by decide)
  obtain ⟨w77, -⟩ := W.1 1 (by decide)
  obtain ⟨w78, -⟩ := W.1 2 (by decide)
  obtain ⟨w79, -⟩ := W.1 3 (by decide)
  obtain ⟨w80, -⟩ := W.1 4 (by decide)
  cases cc : isK T t 0 with
  | false =>
    have e0 : pKw T n 0 t = .inl (1, t.1) := if_neg (by rw [cc]; exact Bool.false_ne_true)
    rw [e0]
    have g := p_349n (P := P) (D := D) (R := R) O X W hF hi'.1 (i := 0) (by decide) cc
    refine ⟨h, F, zu (zu P 4 1) 5 (Int32.ofNat t.1), D, R, ?_, EXT.rf, by rw [zu_o (by decide), zu_same]; rfl, zu_same⟩
    rw [dM_of (Nat.le_of_ble_eq_true rfl)]
    simp -implicitDefEqProofs only [D_327_0, k_327_0, D_327_24, k_327_24, D_327_26, k_327_26, D_327_52, k_327_52, D_327_79, k_327_79, D_327_105, k_327_105, R_327, v_aload_n, g_getstatic, v_callV2, aft_v, aft_n, g_if_eq, g_iconst, g_sipush, v_callV4, g_if_ne, g_ireturn, g_getfield, sv_o, rf_s, g_getfieldS, sv_i, g_put_i, g_bipush, entL, getL, setL, kL_i, kL_r, isI_s, isR_s, isJ_s, gV_s, iV_i, cs0, cs1, cs2, cs3, cs4, dn_nil, kd_si, kd_sl, kd_sw, mr_si, mr_sl, mr_sw, ml_si, ml_sw, mi_sl, cp_k, k3, w76, g, ↓if_true, if_true, rX_0]
  | true =>
    have e0 : pKw T n 0 t = .inr (tok T n t.2.1) := if_pos cc
    rw [e0]
    obtain ⟨F0, g0, K0⟩ := p_349y (P := P) (D := D) (R := R) O X W hF hi'.1 (i := 0) (by decide) cc
    have o0 := tok_ok (T := T) hi'.1.2
    rw [pB_r]
    have g1 : okN h tk pr d c n P D R 1 9999 (pNm T n 1 1 9999 (tok T n t.2.1)) (dM PG 350 [.ref pr, .ref 77, .int 1, .int 9999] (h.cp tk pr d c F0 P D R)) := s_350 O X W K0 o0 (by decide) (by decide) (by decide)
    cases e1 : pNm T n 1 1 9999 (tok T n t.2.1) with
    | inl x =>
      rw [e1] at g1
      rw [pB_l]
      obtain ⟨F', P', g', q1, q2⟩ := g1
      refine ⟨h, F', P', D, R, ?_, EXT.rf, q1, q2⟩
      rw [dM_of (Nat.le_of_ble_eq_true rfl)]
      simp -implicitDefEqProofs only [D_327_0, k_327_0, D_327_24, k_327_24, D_327_26, k_327_26, D_327_52, k_327_52, D_327_79, k_327_79, D_327_105, k_327_105, R_327, v_aload_n, g_getstatic, v_callV2, aft_v, aft_n, g_if_eq, g_iconst, g_sipush, v_callV4, g_if_ne, g_ireturn, g_getfield, sv_o, rf_s, g_getfieldS, sv_i, g_put_i, g_bipush, entL, getL, setL, kL_i, kL_r, isI_s, isR_s, isJ_s, gV_s, iV_i, cs0, cs1, cs2, cs3, cs4, dn_nil, kd_si, kd_sl, kd_sw, mr_si, mr_sl, mr_sw, ml_si, ml_sw, mi_sl, cp_k, cp_r, k3, k1, kd, kc, r0, rd, rc, cp_p J, cp_0 J, cs_0 J, cpc_0 J, csc_0 J, w76, w77, w78, w79, w80, g0, ↓if_neg z_1, if_neg z_1, g', ↓if_true, if_true, rX_0]
    | inr a1 =>
      rw [e1] at g1
      rw [pB_r]
      obtain ⟨F1, P1, h1, K1, o1, v1, kp1, l1, u1⟩ := g1
      have g2 : okN h tk pr d c n P1 (zu2 D 0 0 (Int32.ofNat a1.1)) R 0 99 (pNm T n 2 0 99 a1.2) (dM PG 350 [.ref pr, .ref 78, .int 0, .int 99] (h.cp tk pr d c F1 P1 (zu2 D 0 0 (Int32.ofNat a1.1)) R)) := s_350 O X W K1 o1 (by decide) (by decide) (by decide)
      cases e2 : pNm T n 2 0 99 a1.2 with
      | inl x =>
        rw [e2] at g2
        rw [pB_l]
        obtain ⟨F', P', g', q1, q2⟩ := g2
        refine ⟨h, F', P', zu2 D 0 0 (Int32.ofNat a1.1), R, ?_, EXT.rf, q1, q2⟩
        rw [dM_of (Nat.le_of_ble_eq_true rfl)]
        simp -implicitDefEqProofs only [D_327_0, k_327_0, D_327_24, k_327_24, D_327_26, k_327_26, D_327_52, k_327_52, D_327_79, k_327_79, D_327_105, k_327_105, R_327, v_aload_n, g_getstatic, v_callV2, aft_v, aft_n, g_if_eq, g_iconst, g_sipush, v_callV4, g_if_ne, g_ireturn, g_getfield, sv_o, rf_s, g_getfieldS, sv_i, g_put_i, g_bipush, entL, getL, setL, kL_i, kL_r, isI_s, isR_s, isJ_s, gV_s, iV_i, cs0, cs1, cs2, cs3, cs4, dn_nil, kd_si, kd_sl, kd_sw, mr_si, mr_sl, mr_sw, ml_si, ml_sw, mi_sl, cp_k, cp_r, k3, k1, kd, kc, r0, rd, rc, cp_p J, cp_0 J, cs_0 J, cpc_0 J, csc_0 J, w76, w77, w78, w79, w80, g0, ↓if_neg z_1, if_neg z_1, h1, v1, g', ↓if_true, if_true, rX_0]
      | inr a2 =>
        rw [e2] at g2
        rw [pB_r]
        obtain ⟨F2, P2, h2, K2, o2, v2, kp2, l2, u2⟩ := g2
        have g3 : okN h tk pr d c n P2 (zu2 (zu2 D 0 0 (Int32.ofNat a1.1)) 0 1 (Int32.ofNat a2.1)) R 0 9999 (pNm T n 3 0 9999 a2.2) (dM PG 350 [.ref pr, .ref 79, .int 0, .int 9999] (h.cp tk pr d c F2 P2 (zu2 (zu2 D 0 0 (Int32.ofNat a1.1)) 0 1 (Int32.ofNat a2.1)) R)) := s_350 O X W K2 o2 (by decide) (by decide) (by decide)
        cases e3 : pNm T n 3 0 9999 a2.2 with
        | inl x =>
          rw [e3] at g3
          rw [pB_l]
          obtain ⟨F', P', g', q1, q2⟩ := g3
          refine ⟨h, F', P', zu2 (zu2 D 0 0 (Int32.ofNat a1.1)) 0 1 (Int32.ofNat a2.1), R, ?_, EXT.rf, q1, q2⟩
          rw [dM_of (Nat.le_of_ble_eq_true rfl)]
          simp -implicitDefEqProofs only [D_327_0, k_327_0, D_327_24, k_327_24, D_327_26, k_327_26, D_327_52, k_327_52, D_327_79, k_327_79, D_327_105, k_327_105, R_327, v_aload_n, g_getstatic, v_callV2, aft_v, aft_n, g_if_eq, g_iconst, g_sipush, v_callV4, g_if_ne, g_ireturn, g_getfield, sv_o, rf_s, g_getfieldS, sv_i, g_put_i, g_bipush, entL, getL, setL, kL_i, kL_r, isI_s, isR_s, isJ_s, gV_s, iV_i, cs0, cs1, cs2, cs3, cs4, dn_nil, kd_si, kd_sl, kd_sw, mr_si, mr_sl, mr_sw, ml_si, ml_sw, mi_sl, cp_k, cp_r, k3, k1, kd, kc, r0, rd, rc, cp_p J, cp_0 J, cs_0 J, cpc_0 J, csc_0 J, w76, w77, w78, w79, w80, g0, ↓if_neg z_1, if_neg z_1, h1, v1, h2, v2, g', ↓if_true, if_true, rX_0]
        | inr a3 =>
          rw [e3] at g3
          rw [pB_r]
          obtain ⟨F3, P3, h3, K3, o3, v3, kp3, l3, u3⟩ := g3
          have g4 : okN h tk pr d c n P3 (zu2 (zu2 D 0 0 (Int32.ofNat a1.1)) 0 1 (Int32.ofNat a2.1)) (zu2 R 0 2 (Int32.ofNat a3.1)) 0 10 (pNm T n 4 0 10 a3.2) (dM PG 350 [.ref pr, .ref 80, .int 0, .int 10] (h.cp tk pr d c F3 P3 (zu2 (zu2 D 0 0 (Int32.ofNat a1.1)) 0 1 (Int32.ofNat a2.1)) (zu2 R 0 2 (Int32.ofNat a3.1)))) := s_350 O X W K3 o3 (by decide) (by decide) (by decide)
          cases e4 : pNm T n 4 0 10 a3.2 with
          | inl x =>
            rw [e4] at g4
            rw [pB_l]
            obtain ⟨F', P', g', q1, q2⟩ := g4
            refine ⟨h, F', P', zu2 (zu2 D 0 0 (Int32.ofNat a1.1)) 0 1 (Int32.ofNat a2.1), zu2 R 0 2 (Int32.ofNat a3.1), ?_, EXT.rf, q1, q2⟩
            rw [dM_of (Nat.le_of_ble_eq_true rfl)]
            simp -implicitDefEqProofs only [D_327_0, k_327_0, D_327_24, k_327_24, D_327_26, k_327_26, D_327_52, k_327_52, D_327_79, k_327_79, D_327_105, k_327_105, R_327, v_aload_n, g_getstatic, v_callV2, aft_v, aft_n, g_if_eq, g_iconst, g_sipush, v_callV4, g_if_ne, g_ireturn, g_getfield, sv_o, rf_s, g_getfieldS, sv_i, g_put_i, g_bipush, entL, getL, setL, kL_i, kL_r, isI_s, isR_s, isJ_s, gV_s, iV_i, cs0, cs1, cs2, cs3, cs4, dn_nil, kd_si, kd_sl, kd_sw, mr_si, mr_sl, mr_sw, ml_si, ml_sw, mi_sl, cp_k, cp_r, k3, k1, kd, kc, r0, rd, rc, cp_p J, cp_0 J, cs_0 J, cpc_0 J, csc_0 J, w76, w77, w78, w79, w80, g0, ↓if_neg z_1, if_neg z_1, h1, v1, h2, v2, h3, v3, g', ↓if_true, if_true, rX_0]
          | inr a4 =>
            rw [e4] at g4
            rw [pB_r]
            obtain ⟨F4, P4, h4, K4, o4, v4, kp4, l4, u4⟩ := g4
            refine ⟨h, F4, P4, zu2 (zu2 (zu2 D 0 0 (Int32.ofNat a1.1)) 0 1 (Int32.ofNat a2.1)) 0 2 (Int32.ofNat a4.1), zu2 R 0 2 (Int32.ofNat a3.1), ?_, EXT.rf, K4, o4, ?_⟩
            · skip
              rw [dM_of (Nat.le_of_ble_eq_true rfl)]
              simp -implicitDefEqProofs only [D_327_0, k_327_0, D_327_24, k_327_24, D_327_26, k_327_26, D_327_52, k_327_52, D_327_79, k_327_79, D_327_105, k_327_105, R_327, v_aload_n, g_getstatic, v_callV2, aft_v, aft_n, g_if_eq, g_iconst, g_sipush, v_callV4, g_if_ne, g_ireturn, g_getfield, sv_o, rf_s, g_getfieldS, sv_i, g_put_i, g_bipush, entL, getL, setL, kL_i, kL_r, isI_s, isR_s, isJ_s, gV_s, iV_i, cs0, cs1, cs2, cs3, cs4, dn_nil, kd_si, kd_sl, kd_sw, mr_si, mr_sl, mr_sw, ml_si, ml_sw, mi_sl, cp_k, cp_r, k3, k1, kd, kc, r0, rd, rc, cp_p J, cp_0 J, cs_0 J, cpc_0 J, csc_0 J, w76, w77, w78, w79, w80, g0, ↓if_neg z_1, if_neg z_1, h1, v1, h2, v2, h3, v3, h4, v4, rX_1]
            · exact ⟨crel_0 C ((kP.of kp1).tr ((kP.of kp2).tr ((kP.of kp3).tr (kP.of kp4)))), rfl⟩
theorem R_352 : PG.2.1 352 = (some .boolean) := rfl
theorem s_352 {q : Ps} (O : PO h tk pr d c) (X : TXT h n T) (hF : TK F n t) (hi' : tOk n t) (C : CRel q h P D R) : okR h tk pr d c n 0 (CRe h) (pIc T n q t) (dM PG 352 [.ref pr] (h.cp tk pr d c F P D R)) := by
  have J := O.1
  have k1 : h.kd tk = some (.inl 6) := O.2.1
  have k3 : h.kd pr = some (.inl 3) := O.2.2.2.2.1
  have r0 : h.mr pr 0 = some tk := O.2.2.2.2.2.1
  have rd : h.mr pr 1 = some d := O.2.2.2.2.2.2.1
  have rc : h.mr pr 2 = some c := O.2.2.2.2.2.2.2.1
  have U : SU h d := O.2.2.2.2.2.2.2.2.1
  have Sc : ST h c := O.2.2.2.2.2.2.2.2.2.1
  have kd := su_k U
  have kc := st_k Sc
  unfold pIc
  have f3 := C.2.2.2.2.1
  cases cc : q.ic with
  | true =>
    rw [if_pos rfl]
    rw [cc, b2i_1] at f3
    have g := p_356 (P := P) (D := D) (R := R) O hF (code := 4)
    refine ⟨h, F, zu (zu P 4 4) 5 (Int32.ofNat t.1), D, R, ?_, EXT.rf, by rw [zu_o (by decide), zu_same]; rfl, zu_same⟩
    rw [dM_of (Nat.le_of_ble_eq_true rfl)]
    simp -implicitDefEqProofs only [D_352_0, k_352_0, D_352_13, k_352_13, D_352_38, k_352_38, D_352_62, k_352_62, D_352_85, k_352_85, D_352_108, k_352_108, D_352_131, k_352_131, R_352, v_aload_n, g_getfield, sv_z, rf_s, g_getfieldS, g_if_eq, g_iconst, v_callV2, aft_v, aft_n, g_ireturn, g_put_z, sv_o, v_callV1, g_sipush, v_callV3, g_if_ne, sv_i, g_put_i, g_ldc, g_bipush, entL, getL, setL, kL_i, kL_r, isI_s, isR_s, isJ_s, gV_s, iV_i, cs0, cs1, cs2, cs3, cs4, dn_nil, kd_si, kd_sl, kd_sw, mr_si, mr_sl, mr_sw, ml_si, ml_sw, mi_sl, cp_k, k3, cp_p J, f3, ↓if_neg z_1, if_neg z_1, g, rX_0]
  | false =>
    rw [if_neg Bool.false_ne_true]
    rw [cc, b2i_0] at f3
    obtain ⟨F0, g0, K0⟩ := p_326 (P := zu P 3 1) (D := D) (R := R) O X hF hi'.1
    have o0 := tok_ok (T := T) hi'.1.2
    have g1 : okN h tk pr d c n (zu P 3 1) D R 0 200 (pNu T n 0 200 (tok T n t.2.1)) (dM PG 367 [.ref pr, .int 0, .int 200] (h.cp tk pr d c F0 (zu P 3 1) D R)) := s_367 O X K0 o0 (by decide) (by decide)
    cases e1 : pNu T n 0 200 (tok T n t.2.1) with
    | inl x =>
      rw [e1] at g1
      rw [pB_l]
      obtain ⟨F', P', g', q1, q2⟩ := g1
      refine ⟨h, F', P', D, R, ?_, EXT.rf, q1, q2⟩
      rw [dM_of (Nat.le_of_ble_eq_true rfl)]
      simp -implicitDefEqProofs only [D_352_0, k_352_0, D_352_13, k_352_13, D_352_38, k_352_38, D_352_62, k_352_62, D_352_85, k_352_85, D_352_108, k_352_108, D_352_131, k_352_131, R_352, v_aload_n, g_getfield, sv_z, rf_s, g_getfieldS, g_if_eq, g_iconst, v_callV2, aft_v, aft_n, g_ireturn, g_put_z, sv_o, v_callV1, g_sipush, v_callV3, g_if_ne, sv_i, g_put_i, g_ldc, g_bipush, entL, getL, setL, kL_i, kL_r, isI_s, isR_s, isJ_s, gV_s, iV_i, cs0, cs1, cs2, cs3, cs4, dn_nil, kd_si, kd_sl, kd_sw, mr_si, mr_sl, mr_sw, ml_si, ml_sw, mi_sl, cp_k, cp_r, k3, k1, kd, kc, r0, rd, rc, cp_p J, cp_0 J, cs_0 J, cpc_0 J, csc_0 J, f3, cs_p J, g0, g_put_z1, ↓if_true, if_true, g', ↓if_true, if_true, rX_0]
    | inr a1 =>
      rw [e1] at g1
      rw [pB_r]
      obtain ⟨F1, P1, h1, K1, o1, v1, kp1, l1, u1⟩ := g1
      have g2 : okN h tk pr d c n P1 (zu2 D 0 3 (Int32.ofNat a1.1)) R 0 9999 (pNu T n 0 9999 a1.2) (dM PG 367 [.ref pr, .int 0, .int 9999] (h.cp tk pr d c F1 P1 (zu2 D 0 3 (Int32.ofNat a1.1)) R)) := s_367 O X K1 o1 (by decide) (by decide)
      cases e2 : pNu T n 0 9999 a1.2 with
      | inl x =>
        rw [e2] at g2
        rw [pB_l]
        obtain ⟨F', P', g', q1, q2⟩ := g2
        refine ⟨h, F', P', zu2 D 0 3 (Int32.ofNat a1.1), R, ?_, EXT.rf, q1, q2⟩
        rw [dM_of (Nat.le_of_ble_eq_true rfl)]
        simp -implicitDefEqProofs only [D_352_0, k_352_0, D_352_13, k_352_13, D_352_38, k_352_38, D_352_62, k_352_62, D_352_85, k_352_85, D_352_108, k_352_108, D_352_131, k_352_131, R_352, v_aload_n, g_getfield, sv_z, rf_s, g_getfieldS, g_if_eq, g_iconst, v_callV2, aft_v, aft_n, g_ireturn, g_put_z, sv_o, v_callV1, g_sipush, v_callV3, g_if_ne, sv_i, g_put_i, g_ldc, g_bipush, entL, getL, setL, kL_i, kL_r, isI_s, isR_s, isJ_s, gV_s, iV_i, cs0, cs1, cs2, cs3, cs4, dn_nil, kd_si, kd_sl, kd_sw, mr_si, mr_sl, mr_sw, ml_si, ml_sw, mi_sl, cp_k, cp_r, k3, k1, kd, kc, r0, rd, rc, cp_p J, cp_0 J, cs_0 J, cpc_0 J, csc_0 J, f3, cs_p J, g0, g_put_z1, ↓if_true, if_true, h1, v1, ↓if_neg z_1, if_neg z_1, g', ↓if_true, if_true, rX_0]
      | inr a2 =>
        rw [e2] at g2
        rw [pB_r]
        obtain ⟨F2, P2, h2, K2, o2, v2, kp2, l2, u2⟩ := g2
        have g3 : okN h tk pr d c n P2 (zu2 (zu2 D 0 3 (Int32.ofNat a1.1)) 0 4 (Int32.ofNat a2.1)) R 0 99999 (pNu T n 0 99999 a2.2) (dM PG 367 [.ref pr, .int 0, .int 99999] (h.cp tk pr d c F2 P2 (zu2 (zu2 D 0 3 (Int32.ofNat a1.1)) 0 4 (Int32.ofNat a2.1)) R)) := s_367 O X K2 o2 (by decide) (by decide)
        cases e3 : pNu T n 0 99999 a2.2 with
        | inl x =>
          rw [e3] at g3
          rw [pB_l]
          obtain ⟨F', P', g', q1, q2⟩ := g3
          refine ⟨h, F', P', zu2 (zu2 D 0 3 (Int32.ofNat a1.1)) 0 4 (Int32.ofNat a2.1), R, ?_, EXT.rf, q1, q2⟩
          rw [dM_of (Nat.le_of_ble_eq_true rfl)]
          simp -implicitDefEqProofs only [D_352_0, k_352_0, D_352_13, k_352_13, D_352_38, k_352_38, D_352_62, k_352_62, D_352_85, k_352_85, D_352_108, k_352_108, D_352_131, k_352_131, R_352, v_aload_n, g_getfield, sv_z, rf_s, g_getfieldS, g_if_eq, g_iconst, v_callV2, aft_v, aft_n, g_ireturn, g_put_z, sv_o, v_callV1, g_sipush, v_callV3, g_if_ne, sv_i, g_put_i, g_ldc, g_bipush, entL, getL, setL, kL_i, kL_r, isI_s, isR_s, isJ_s, gV_s, iV_i, cs0, cs1, cs2, cs3, cs4, dn_nil, kd_si, kd_sl, kd_sw, mr_si, mr_sl, mr_sw, ml_si, ml_sw, mi_sl, cp_k, cp_r, k3, k1, kd, kc, r0, rd, rc, cp_p J, cp_0 J, cs_0 J, cpc_0 J, csc_0 J, f3, cs_p J, g0, g_put_z1, ↓if_true, if_true, h1, v1, ↓if_neg z_1, if_neg z_1, h2, v2, g', ↓if_true, if_true, rX_0]
        | inr a3 =>
          rw [e3] at g3
          rw [pB_r]
          obtain ⟨F3, P3, h3, K3, o3, v3, kp3, l3, u3⟩ := g3
          have g4 : okN h tk pr d c n P3 (zu2 (zu2 (zu2 D 0 3 (Int32.ofNat a1.1)) 0 4 (Int32.ofNat a2.1)) 0 5 (Int32.ofNat a3.1)) R 0 99 (pNu T n 0 99 a3.2) (dM PG 367 [.ref pr, .int 0, .int 99] (h.cp tk pr d c F3 P3 (zu2 (zu2 (zu2 D 0 3 (Int32.ofNat a1.1)) 0 4 (Int32.ofNat a2.1)) 0 5 (Int32.ofNat a3.1)) R)) := s_367 O X K3 o3 (by decide) (by decide)
          cases e4 : pNu T n 0 99 a3.2 with
          | inl x =>
            rw [e4] at g4
            rw [pB_l]
            obtain ⟨F', P', g', q1, q2⟩ := g4
            refine ⟨h, F', P', zu2 (zu2 (zu2 D 0 3 (Int32.ofNat a1.1)) 0 4 (Int32.ofNat a2.1)) 0 5 (Int32.ofNat a3.1), R, ?_, EXT.rf, q1, q2⟩
            rw [dM_of (Nat.le_of_ble_eq_true rfl)]
            simp -implicitDefEqProofs only [D_352_0, k_352_0, D_352_13, k_352_13, D_352_38, k_352_38, D_352_62, k_352_62, D_352_85, k_352_85, D_352_108, k_352_108, D_352_131, k_352_131, R_352, v_aload_n, g_getfield, sv_z, rf_s, g_getfieldS, g_if_eq, g_iconst, v_callV2, aft_v, aft_n, g_ireturn, g_put_z, sv_o, v_callV1, g_sipush, v_callV3, g_if_ne, sv_i, g_put_i, g_ldc, g_bipush, entL, getL, setL, kL_i, kL_r, isI_s, isR_s, isJ_s, gV_s, iV_i, cs0, cs1, cs2, cs3, cs4, dn_nil, kd_si, kd_sl, kd_sw, mr_si, mr_sl, mr_sw, ml_si, ml_sw, mi_sl, cp_k, cp_r, k3, k1, kd, kc, r0, rd, rc, cp_p J, cp_0 J, cs_0 J, cpc_0 J, csc_0 J, f3, cs_p J, g0, g_put_z1, ↓if_true, if_true, h1, v1, ↓if_neg z_1, if_neg z_1, h2, v2, h3, v3, g', ↓if_true, if_true, rX_0]
          | inr a4 =>
            rw [e4] at g4
            rw [pB_r]
            obtain ⟨F4, P4, h4, K4, o4, v4, kp4, l4, u4⟩ := g4
            have g5 : okN h tk pr d c n P4 (zu2 (zu2 (zu2 (zu2 D 0 3 (Int32.ofNat a1.1)) 0 4 (Int32.ofNat a2.1)) 0 5 (Int32.ofNat a3.1)) 0 6 (Int32.ofNat a4.1)) R 0 50 (pNu T n 0 50 a4.2) (dM PG 367 [.ref pr, .int 0, .int 50] (h.cp tk pr d c F4 P4 (zu2 (zu2 (zu2 (zu2 D 0 3 (Int32.ofNat a1.1)) 0 4 (Int32.ofNat a2.1)) 0 5 (Int32.ofNat a3.1)) 0 6 (Int32.ofNat a4.1)) R)) := s_367 O X K4 o4 (by decide) (by decide)
            cases e5 : pNu T n 0 50 a4.2 with
            | inl x =>
              rw [e5] at g5
              rw [pB_l]
              obtain ⟨F', P', g', q1, q2⟩ := g5
              refine ⟨h, F', P', zu2 (zu2 (zu2 (zu2 D 0 3 (Int32.ofNat a1.1)) 0 4 (Int32.ofNat a2.1)) 0 5 (Int32.ofNat a3.1)) 0 6 (Int32.ofNat a4.1), R, ?_, EXT.rf, q1, q2⟩
              rw [dM_of (Nat.le_of_ble_eq_true rfl)]
              simp -implicitDefEqProofs only [D_352_0, k_352_0, D_352_13, k_352_13, D_352_38, k_352_38, D_352_62, k_352_62, D_352_85, k_352_85, D_352_108, k_352_108, D_352_131, k_352_131, R_352, v_aload_n, g_getfield, sv_z, rf_s, g_getfieldS, g_if_eq, g_iconst, v_callV2, aft_v, aft_n, g_ireturn, g_put_z, sv_o, v_callV1, g_sipush, v_callV3, g_if_ne, sv_i, g_put_i, g_ldc, g_bipush, entL, getL, setL, kL_i, kL_r, isI_s, isR_s, isJ_s, gV_s, iV_i, cs0, cs1, cs2, cs3, cs4, dn_nil, kd_si, kd_sl, kd_sw, mr_si, mr_sl, mr_sw, ml_si, ml_sw, mi_sl, cp_k, cp_r, k3, k1, kd, kc, r0, rd, rc, cp_p J, cp_0 J, cs_0 J, cpc_0 J, csc_0 J, f3, cs_p J, g0, g_put_z1, ↓if_true, if_true, h1, v1, ↓if_neg z_1, if_neg z_1, h2, v2, h3, v3, h4, v4, g', ↓if_true, if_true, rX_0]
            | inr a5 =>
              rw [e5] at g5
              rw [pB_r]
              obtain ⟨F5, P5, h5, K5, o5, v5, kp5, l5, u5⟩ := g5
              refine ⟨h, F5, P5, zu2 (zu2 (zu2 (zu2 (zu2 D 0 3 (Int32.ofNat a1.1)) 0 4 (Int32.ofNat a2.1)) 0 5 (Int32.ofNat a3.1)) 0 6 (Int32.ofNat a4.1)) 0 7 (Int32.ofNat a5.1), R, ?_, EXT.rf, K5, o5, ?_⟩
              · skip
                rw [dM_of (Nat.le_of_ble_eq_true rfl)]
                simp -implicitDefEqProofs only [D_352_0, k_352_0, D_352_13, k_352_13, D_352_38, k_352_38, D_352_62, k_352_62, D_352_85, k_352_85, D_352_108, k_352_108, D_352_131, k_352_131, R_352, v_aload_n, g_getfield, sv_z, rf_s, g_getfieldS, g_if_eq, g_iconst, v_callV2, aft_v, aft_n, g_ireturn, g_put_z, sv_o, v_callV1, g_sipush, v_callV3, g_if_ne, sv_i, g_put_i, g_ldc, g_bipush, entL, getL, setL, kL_i, kL_r, isI_s, isR_s, isJ_s, gV_s, iV_i, cs0, cs1, cs2, cs3, cs4, dn_nil, kd_si, kd_sl, kd_sw, mr_si, mr_sl, mr_sw, ml_si, ml_sw, mi_sl, cp_k, cp_r, k3, k1, kd, kc, r0, rd, rc, cp_p J, cp_0 J, cs_0 J, cpc_0 J, csc_0 J, f3, cs_p J, g0, g_put_z1, ↓if_true, if_true, h1, v1, ↓if_neg z_1, if_neg z_1, h2, v2, h3, v3, h4, v4, h5, v5, rX_1]
              · exact ⟨crel_i C ⟨((kP.of kp1).tr ((kP.of kp2).tr ((kP.of kp3).tr ((kP.of kp4).tr (kP.of kp5))))).1.trans zu_same, ((kP.of kp1).tr ((kP.of kp2).tr ((kP.of kp3).tr ((kP.of kp4).tr (kP.of kp5))))).2.1.trans (zu_o (by decide)), ((kP.of kp1).tr ((kP.of kp2).tr ((kP.of kp3).tr ((kP.of kp4).tr (kP.of kp5))))).2.2.trans (zu_o (by decide))⟩, rfl⟩
theorem R_353 : PG.2.1 353 = (some .boolean) := rfl
theorem s_353 {q : Ps} (O : PO h tk pr d c) (X : TXT h n T) (hF : TK F n t) (hi' : tOk n t) (C : CRel q h P D R) : okR h tk pr d c n 0 (CRe h) (pSt T n q t) (dM PG 353 [.ref pr] (h.cp tk pr d c F P D R)) := by
  have J := O.1
  have k1 : h.kd tk = some (.inl 6) := O.2.1
  have k3 : h.kd pr = some (.inl 3) := O.2.2.2.2.1
  have r0 : h.mr pr 0 = some tk := O.2.2.2.2.2.1
  have rd : h.mr pr 1 = some d := O.2.2.2.2.2.2.1
  have rc : h.mr pr 2 = some c := O.2.2.2.2.2.2.2.1
  have U : SU h d := O.2.2.2.2.2.2.2.2.1
  have Sc : ST h c := O.2.2.2.2.2.2.2.2.2.1
  have kd := su_k U
  have kc := st_k Sc
  unfold pSt
  have f8 : D 0 8 = Int32.ofNat q.st := C.1.2.2.1
  by_cases cc : 4 ≤ q.st
  · rw [if_pos cc]
    have z : ¬ Int32.ofNat q.st < 4 := fun hc => by
      have := (i32_lt (a := q.st) (b := 4) (by have := C.1.1.1; omega) (by decide)).mp hc
      omega
    have g := p_356 (P := P) (D := D) (R := R) O hF (code := 5)
    refine ⟨h, F, zu (zu P 4 5) 5 (Int32.ofNat t.1), D, R, ?_, EXT.rf, by rw [zu_o (by decide), zu_same]; rfl, zu_same⟩
    rw [dM_of (Nat.le_of_ble_eq_true rfl)]
    simp -implicitDefEqProofs only [D_353_0, k_353_0, D_353_17, k_353_17, D_353_37, k_353_37, D_353_55, k_353_55, R_353, v_aload_n, g_getfield, sv_o, rf_s, g_getfieldS, sv_i, g_iconst, g_icmp_lt, v_callV2, aft_v, aft_n, g_ireturn, v_callV1, g_sipush, v_callV3, g_if_ne, g_istore_n, v_iload_n, entL, getL, setL, kL_i, kL_r, isI_s, isR_s, isJ_s, gV_s, iV_i, cs0, cs1, cs2, cs3, cs4, dn_nil, kd_si, kd_sl, kd_sw, mr_si, mr_sl, mr_sw, ml_si, ml_sw, mi_sl, cp_k, cp_r, k3, kd, rd, cp_0 J, f8, ↓if_neg z, if_neg z, g, rX_0]
  · rw [if_neg cc]
    have z : Int32.ofNat q.st < 4 := i32_lt_lit (b := 4) (by decide) (by omega)
    obtain ⟨F0, g0, K0⟩ := p_326 (P := P) (D := D) (R := R) O X hF hi'.1
    have o0 := tok_ok (T := T) hi'.1.2
    have g1 : okN h tk pr d c n P D R 1 999 (pNu T n 1 999 (tok T n t.2.1)) (dM PG 367 [.ref pr, .int 1, .int 999] (h.cp tk pr d c F0 P D R)) := s_367 O X K0 o0 (by decide) (by decide)
    cases e1 : pNu T n 1 999 (tok T n t.2.1) with
    | inl x =>
      rw [e1] at g1
      rw [pB_l]
      obtain ⟨F', P', g', q1, q2⟩ := g1
      refine ⟨h, F', P', D, R, ?_, EXT.rf, q1, q2⟩
      rw [dM_of (Nat.le_of_ble_eq_true rfl)]
      simp -implicitDefEqProofs only [D_353_0, k_353_0, D_353_17, k_353_17, D_353_37, k_353_37, D_353_55, k_353_55, R_353, v_aload_n, g_getfield, sv_o, rf_s, g_getfieldS, sv_i, g_iconst, g_icmp_lt, v_callV2, aft_v, aft_n, g_ireturn, v_callV1, g_sipush, v_callV3, g_if_ne, g_istore_n, v_iload_n, entL, getL, setL, kL_i, kL_r, isI_s, isR_s, isJ_s, gV_s, iV_i, cs0, cs1, cs2, cs3, cs4, dn_nil, kd_si, kd_sl, kd_sw, mr_si, mr_sl, mr_sw, ml_si, ml_sw, mi_sl, cp_k, cp_r, k3, k1, kd, kc, r0, rd, rc, cp_p J, cp_0 J, cs_0 J, cpc_0 J, csc_0 J, f8, ↓if_pos z, if_pos z, g0, g', ↓if_true, if_true, rX_0]
    | inr a1 =>
      rw [e1] at g1
      rw [pB_r]
      obtain ⟨F1, P1, h1, K1, o1, v1, kp1, l1, u1⟩ := g1
      have g2 : okN h tk pr d c n P1 D R a1.1 999 (pNu T n a1.1 999 a1.2) (dM PG 367 [.ref pr, .int (Int32.ofNat a1.1), .int 999] (h.cp tk pr d c F1 P1 D R)) := s_367 O X K1 o1 (by omega) (by decide)
      cases e2 : pNu T n a1.1 999 a1.2 with
      | inl x =>
        rw [e2] at g2
        rw [pB_l]
        obtain ⟨F', P', g', q1, q2⟩ := g2
        refine ⟨h, F', P', D, R, ?_, EXT.rf, q1, q2⟩
        rw [dM_of (Nat.le_of_ble_eq_true rfl)]
        simp -implicitDefEqProofs only [D_353_0, k_353_0, D_353_17, k_353_17, D_353_37, k_353_37, D_353_55, k_353_55, R_353, v_aload_n, g_getfield, sv_o, rf_s, g_getfieldS, sv_i, g_iconst, g_icmp_lt, v_callV2, aft_v, aft_n, g_ireturn, v_callV1, g_sipush, v_callV3, g_if_ne, g_istore_n, v_iload_n, entL, getL, setL, kL_i, kL_r, isI_s, isR_s, isJ_s, gV_s, iV_i, cs0, cs1, cs2, cs3, cs4, dn_nil, kd_si, kd_sl, kd_sw, mr_si, mr_sl, mr_sw, ml_si, ml_sw, mi_sl, cp_k, cp_r, k3, k1, kd, kc, r0, rd, rc, cp_p J, cp_0 J, cs_0 J, cpc_0 J, csc_0 J, f8, ↓if_pos z, if_pos z, g0, h1, v1, ↓if_neg z_1, if_neg z_1, g', ↓if_true, if_true, rX_0]
      | inr a2 =>
        rw [e2] at g2
        rw [pB_r]
        obtain ⟨F2, P2, h2, K2, o2, v2, kp2, l2, u2⟩ := g2
        have g3 := p_368 (F := F2) (P := P2) (R := R) O f8 (by omega) (x := Int32.ofNat a1.1) (w := Int32.ofNat a2.1)
        refine ⟨h, F2, P2, asF D q.st (Int32.ofNat a1.1) (Int32.ofNat a2.1), R, ?_, EXT.rf, K2, o2, ?_⟩
        · skip
          rw [dM_of (Nat.le_of_ble_eq_true rfl)]
          simp -implicitDefEqProofs only [D_353_0, k_353_0, D_353_17, k_353_17, D_353_37, k_353_37, D_353_55, k_353_55, R_353, v_aload_n, g_getfield, sv_o, rf_s, g_getfieldS, sv_i, g_iconst, g_icmp_lt, v_callV2, aft_v, aft_n, g_ireturn, v_callV1, g_sipush, v_callV3, g_if_ne, g_istore_n, v_iload_n, entL, getL, setL, kL_i, kL_r, isI_s, isR_s, isJ_s, gV_s, iV_i, cs0, cs1, cs2, cs3, cs4, dn_nil, kd_si, kd_sl, kd_sw, mr_si, mr_sl, mr_sw, ml_si, ml_sw, mi_sl, cp_k, cp_r, k3, k1, kd, kc, r0, rd, rc, cp_p J, cp_0 J, cs_0 J, cpc_0 J, csc_0 J, f8, ↓if_pos z, if_pos z, g0, h1, v1, ↓if_neg z_1, if_neg z_1, h2, v2, g3, rX_1]
        · exact ⟨crel_s C (by omega) ((kP.of kp1).tr (kP.of kp2)), rfl⟩
end PAS
