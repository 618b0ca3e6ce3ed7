-- ===== the equations for simp: no unknowns in their conditions =====
def isI : Option Value → Bool
  | some (.int _) => true
  | _ => false
def isJ : Option Value → Bool
  | some (.long _) => true
  | _ => false
def isR : Option Value → Bool
  | some (.ref _) => true
  | _ => false
def isN : Option Value → Bool
  | some (.null) => true
  | _ => false
def gV : Option Value → Value
  | some v => v
  | none => .null
theorem gV_s {v : Value} : gV (some v) = v := rfl
theorem isI_ex {o : Option Value} (h : isI o = true) : ∃ x, o = some (.int x) := by
  cases o with
  | none => cases h
  | some v => cases v <;> first | exact ⟨_, rfl⟩ | cases h
theorem isJ_ex {o : Option Value} (h : isJ o = true) : ∃ x, o = some (.long x) := by
  cases o with
  | none => cases h
  | some v => cases v <;> first | exact ⟨_, rfl⟩ | cases h
theorem isR_ex {o : Option Value} (h : isR o = true) : ∃ x, o = some (.ref x) := by
  cases o with
  | none => cases h
  | some v => cases v <;> first | exact ⟨_, rfl⟩ | cases h
theorem isN_ex {o : Option Value} (h : isN o = true) : o = some .null := by
  cases o with
  | none => cases h
  | some v => cases v <;> first | rfl | cases h
theorem isI_s {x : Int32} : isI (some (.int x)) = true := rfl
theorem isJ_s {x : Int64} : isJ (some (.long x)) = true := rfl
theorem isR_s {x : Nat} : isR (some (.ref x)) = true := rfl
theorem isN_s : isN (some .null) = true := rfl
def inb (i : Int32) (n : Nat) : Bool := (ixN i n).isSome
theorem inb_ix {i : Int32} {n : Nat} (h : inb i n = true) : ixN i n = some i.toNatClampNeg := by
  unfold inb ixN at h
  unfold ixN
  split at h
  · cases h
  · rename_i hc; rw [if_neg hc]
theorem inb_of {i : Int32} {n : Nat} (h0 : ¬ i < 0) (h1 : i.toNatClampNeg < n) : inb i n = true := by
  unfold inb ixN
  rw [if_neg (fun h => h.elim h0 (fun h => Nat.not_le_of_lt h1 h))]; rfl
theorem inb_to {i : Int32} {n : Nat} (h : inb i n = true) : ¬ i < 0 ∧ i.toNatClampNeg < n := by
  unfold inb ixN at h
  split at h
  · cases h
  · rename_i hc; exact ⟨fun h => hc (Or.inl h), Nat.lt_of_not_le fun h => hc (Or.inr h)⟩
def inI (k : Kd) (i : Int32) : Bool := match k with
  | some (.inr (.int, n)) => inb i n
  | some (.inr (.array .int, n)) => inb i n
  | _ => false
def inB (k : Kd) (i : Int32) : Bool := match k with
  | some (.inr (.byte, n)) => inb i n
  | some (.inr (.array .byte, n)) => inb i n
  | _ => false
def inJ (k : Kd) (i : Int32) : Bool := match k with
  | some (.inr (.long, n)) => inb i n
  | _ => false
def inA (k : Kd) (i : Int32) : Bool := match k with
  | some (.inr (.object _, n)) => inb i n
  | some (.inr (.array (.object _), n)) => inb i n
  | _ => false
def wrI (k : Kd) (i : Int32) : Bool := match k with
  | some (.inr (.int, n)) => inb i n
  | _ => false
def wrB (k : Kd) (i : Int32) : Bool := match k with
  | some (.inr (.byte, n)) => inb i n
  | _ => false
def wrA (k : Kd) (i : Int32) : Bool := match k with
  | some (.inr (.object _, n)) => inb i n
  | _ => false
def isA (k : Kd) : Bool := match k with
  | some (.inr _) => true
  | _ => false
def lnA (k : Kd) : Nat := match k with
  | some (.inr (_, n)) => n
  | _ => 0
theorem inI_0 {n : Nat} {i : Int32} : inI (some (.inr (.int, n))) i = inb i n := rfl
theorem inI_1 {n : Nat} {i : Int32} : inI (some (.inr (.array .int, n))) i = inb i n := rfl
theorem inB_0 {n : Nat} {i : Int32} : inB (some (.inr (.byte, n))) i = inb i n := rfl
theorem inB_1 {n : Nat} {i : Int32} : inB (some (.inr (.array .byte, n))) i = inb i n := rfl
theorem inJ_0 {n : Nat} {i : Int32} : inJ (some (.inr (.long, n))) i = inb i n := rfl
theorem wrI_0 {n : Nat} {i : Int32} : wrI (some (.inr (.int, n))) i = inb i n := rfl
theorem wrB_0 {n : Nat} {i : Int32} : wrB (some (.inr (.byte, n))) i = inb i n := rfl
theorem inA_0 {n : Nat} {C : String} {i : Int32} : inA (some (.inr (.object C, n))) i = inb i n := rfl
theorem inA_1 {n : Nat} {C : String} {i : Int32} : inA (some (.inr (.array (.object C), n))) i = inb i n := rfl
theorem wrA_0 {n : Nat} {C : String} {i : Int32} : wrA (some (.inr (.object C, n))) i = inb i n := rfl
theorem isA_0 {x : FieldType × Nat} : isA (some (.inr x)) = true := rfl
theorem lnA_0 {t : FieldType} {n : Nat} : lnA (some (.inr (t, n))) = n := rfl
theorem ldI_of {h : Mm} {x : Nat} {i : Int32} (hz : inI (h.kd x) i = true) : ldI h x i = some (h.mi x i.toNatClampNeg) := by
  unfold ldI
  unfold inI at hz
  split at hz <;> first | cases hz | (rename_i e; rw [e]; dsimp only; rw [inb_ix hz]; rfl)
theorem ldB_of {h : Mm} {x : Nat} {i : Int32} (hz : inB (h.kd x) i = true) : ldB h x i = some (h.mi x i.toNatClampNeg) := by
  unfold ldB
  unfold inB at hz
  split at hz <;> first | cases hz | (rename_i e; rw [e]; dsimp only; rw [inb_ix hz]; rfl)
theorem ldL_of {h : Mm} {x : Nat} {i : Int32} (hz : inJ (h.kd x) i = true) : ldL h x i = some (h.ml x i.toNatClampNeg) := by
  unfold ldL
  unfold inJ at hz
  split at hz <;> first | cases hz | (rename_i e; rw [e]; dsimp only; rw [inb_ix hz]; rfl)
theorem ldA_of {h : Mm} {x : Nat} {i : Int32} (hz : inA (h.kd x) i = true) : ldA h x i = some (h.mr x i.toNatClampNeg) := by
  unfold ldA
  unfold inA at hz
  split at hz <;> first | cases hz | (rename_i e; rw [e]; dsimp only; rw [inb_ix hz]; rfl)
theorem stI_of {h : Mm} {x : Nat} {i : Int32} {z : Int32} (hz : wrI (h.kd x) i = true) : stI h x i z = some (h.si x i.toNatClampNeg z) := by
  unfold stI
  unfold wrI at hz
  split at hz <;> first | cases hz | (rename_i e; rw [e]; dsimp only; rw [inb_ix hz]; rfl)
theorem stB_of {h : Mm} {x : Nat} {i : Int32} {z : Int32} (hz : wrB (h.kd x) i = true) : stB h x i z = some (h.si x i.toNatClampNeg z.toInt8.toInt32) := by
  unfold stB
  unfold wrB at hz
  split at hz <;> first | cases hz | (rename_i e; rw [e]; dsimp only; rw [inb_ix hz]; rfl)
theorem stJ_of {h : Mm} {x : Nat} {i : Int32} {z : Int64} (hz : inJ (h.kd x) i = true) : stJ h x i z = some (h.sl x i.toNatClampNeg z) := by
  unfold stJ
  unfold inJ at hz
  split at hz <;> first | cases hz | (rename_i e; rw [e]; dsimp only; rw [inb_ix hz]; rfl)
theorem stA_of {h : Mm} {x z c : Nat} {i : Int32} (hz : wrA (h.kd x) i = true) (hk : h.kd z = some (.inl c)) : stA h c x i z = some (h.sr x i.toNatClampNeg (some z)) := by
  unfold stA
  unfold wrA at hz
  split at hz
  · rename_i e; rw [e]; dsimp only; rw [if_pos hk, inb_ix hz]; rfl
  · cases hz
theorem lenA_of {h : Mm} {x : Nat} (hz : isA (h.kd x) = true) : lenA h x = some (lnA (h.kd x)) := by
  unfold lenA lnA
  unfold isA at hz
  split at hz
  · rename_i e; rw [e]
  · cases hz
section VEQ
variable {P : Pg} {y fin nx a b w : Nat} {v : Value} {ty : FieldType} {rs : List Rw} {L : Lc} {st : List Value} {h : Mm}
theorem v_iload {n : Nat} (hx : isI (getL L a) = true) : dn P y ((.iload n, nx, a, b, v, ty, w) :: rs) fin L st h = dn P y rs fin L (gV (getL L a) :: st) h := by
  obtain ⟨x, e⟩ := isI_ex hx
  rw [g_iload e, e]; rfl
theorem v_iload_n {n : Fin 4} (hx : isI (getL L a) = true) : dn P y ((.iload_n n, nx, a, b, v, ty, w) :: rs) fin L st h = dn P y rs fin L (gV (getL L a) :: st) h := by
  obtain ⟨x, e⟩ := isI_ex hx
  rw [g_iload_n e, e]; rfl
theorem v_lload {n : Nat} (hx : isJ (getL L a) = true) : dn P y ((.lload n, nx, a, b, v, ty, w) :: rs) fin L st h = dn P y rs fin L (gV (getL L a) :: st) h := by
  obtain ⟨x, e⟩ := isJ_ex hx
  rw [g_lload e, e]; rfl
theorem v_lload_n {n : Fin 4} (hx : isJ (getL L a) = true) : dn P y ((.lload_n n, nx, a, b, v, ty, w) :: rs) fin L st h = dn P y rs fin L (gV (getL L a) :: st) h := by
  obtain ⟨x, e⟩ := isJ_ex hx
  rw [g_lload_n e, e]; rfl
theorem v_aload {n : Nat} (hx : isR (getL L a) = true) : dn P y ((.aload n, nx, a, b, v, ty, w) :: rs) fin L st h = dn P y rs fin L (gV (getL L a) :: st) h := by
  obtain ⟨x, e⟩ := isR_ex hx
  rw [g_aload e, e]; rfl
theorem v_aload_n {n : Fin 4} (hx : isR (getL L a) = true) : dn P y ((.aload_n n, nx, a, b, v, ty, w) :: rs) fin L st h = dn P y rs fin L (gV (getL L a) :: st) h := by
  obtain ⟨x, e⟩ := isR_ex hx
  rw [g_aload_n e, e]; rfl
theorem v_aloadN {n : Nat} (hx : isN (getL L a) = true) : dn P y ((.aload n, nx, a, b, v, ty, w) :: rs) fin L st h = dn P y rs fin L (.null :: st) h := g_aloadN (isN_ex hx)
theorem v_aload_nN {n : Fin 4} (hx : isN (getL L a) = true) : dn P y ((.aload_n n, nx, a, b, v, ty, w) :: rs) fin L st h = dn P y rs fin L (.null :: st) h := g_aload_nN (isN_ex hx)
def iV : Value → Int32
  | .int x => x
  | _ => 0
theorem iV_i {x : Int32} : iV (.int x) = x := rfl
theorem v_iinc {n : Nat} {i : Int} {z : Int32} (hx : isI (getL L a) = true) : dn P y ((.iinc n i, nx, a, b, .int z, ty, w) :: rs) fin L st h = dn P y rs fin (setL L a (.int (iV (gV (getL L a)) + z))) st h := by
  obtain ⟨x, e⟩ := isI_ex hx
  rw [g_iinc e, e]; rfl
theorem v_iaload {x : Nat} {i : Int32} (hz : inI (h.kd x) i = true) : dn P y ((.iaload, nx, a, b, v, ty, w) :: rs) fin L (.int i :: .ref x :: st) h = dn P y rs fin L (.int (h.mi x i.toNatClampNeg) :: st) h := g_iaload (ldI_of hz)
theorem v_baload {x : Nat} {i : Int32} (hz : inB (h.kd x) i = true) : dn P y ((.baload, nx, a, b, v, ty, w) :: rs) fin L (.int i :: .ref x :: st) h = dn P y rs fin L (.int (h.mi x i.toNatClampNeg) :: st) h := g_baload (ldB_of hz)
theorem v_laload {x : Nat} {i : Int32} (hz : inJ (h.kd x) i = true) : dn P y ((.laload, nx, a, b, v, ty, w) :: rs) fin L (.int i :: .ref x :: st) h = dn P y rs fin L (.long (h.ml x i.toNatClampNeg) :: st) h := g_laload (ldL_of hz)
theorem v_aaload {x : Nat} {i : Int32} (hz : inA (h.kd x) i = true) : dn P y ((.aaload, nx, a, b, v, ty, w) :: rs) fin L (.int i :: .ref x :: st) h = dn P y rs fin L (va_rf (h.mr x i.toNatClampNeg) :: st) h := g_aaload (ldA_of hz)
theorem v_iastore {x : Nat} {i : Int32} {z : Int32} (hz : wrI (h.kd x) i = true) : dn P y ((.iastore, nx, a, b, v, ty, w) :: rs) fin L (.int z :: .int i :: .ref x :: st) h = dn P y rs fin L st (h.si x i.toNatClampNeg z) := g_iastore (stI_of hz)
theorem v_bastore {x : Nat} {i : Int32} {z : Int32} (hz : wrB (h.kd x) i = true) : dn P y ((.bastore, nx, a, b, v, ty, w) :: rs) fin L (.int z :: .int i :: .ref x :: st) h = dn P y rs fin L st (h.si x i.toNatClampNeg z.toInt8.toInt32) := g_bastore (stB_of hz)
theorem v_lastore {x : Nat} {i : Int32} {z : Int64} (hz : inJ (h.kd x) i = true) : dn P y ((.lastore, nx, a, b, v, ty, w) :: rs) fin L (.long z :: .int i :: .ref x :: st) h = dn P y rs fin L st (h.sl x i.toNatClampNeg z) := g_lastore (stJ_of hz)
theorem v_aastore {x z : Nat} {i : Int32} (hz : wrA (h.kd x) i = true) (hk : h.kd z = some (.inl a)) : dn P y ((.aastore, nx, a, b, v, ty, w) :: rs) fin L (.ref z :: .int i :: .ref x :: st) h = dn P y rs fin L st (h.sr x i.toNatClampNeg (some z)) := g_aastore (stA_of hz hk)
theorem v_alen {x : Nat} (hz : isA (h.kd x) = true) : dn P y ((.arraylength, nx, a, b, v, ty, w) :: rs) fin L (.ref x :: st) h = dn P y rs fin L (.int (Int32.ofNat (lnA (h.kd x))) :: st) h := g_alen (lenA_of hz)
theorem v_callS0 {ix : Nat} (h8 : catS st ≤ 8) : dn P y ((.invokestatic ix, nx, a, 0, .null, ty, w) :: rs) fin L (st) h = aft P y rs fin L st (dM P a [] h) := g_callS rfl h8
theorem v_callS1 {ix : Nat} {u0 : Value} (h8 : catS st ≤ 8) : dn P y ((.invokestatic ix, nx, a, 1, .null, ty, w) :: rs) fin L (u0 :: st) h = aft P y rs fin L st (dM P a [u0] h) := g_callS rfl h8
theorem v_callS2 {ix : Nat} {u0 u1 : Value} (h8 : catS st ≤ 8) : dn P y ((.invokestatic ix, nx, a, 2, .null, ty, w) :: rs) fin L (u1 :: u0 :: st) h = aft P y rs fin L st (dM P a [u0, u1] h) := g_callS rfl h8
theorem v_callS3 {ix : Nat} {u0 u1 u2 : Value} (h8 : catS st ≤ 8) : dn P y ((.invokestatic ix, nx, a, 3, .null, ty, w) :: rs) fin L (u2 :: u1 :: u0 :: st) h = aft P y rs fin L st (dM P a [u0, u1, u2] h) := g_callS rfl h8
theorem v_callS4 {ix : Nat} {u0 u1 u2 u3 : Value} (h8 : catS st ≤ 8) : dn P y ((.invokestatic ix, nx, a, 4, .null, ty, w) :: rs) fin L (u3 :: u2 :: u1 :: u0 :: st) h = aft P y rs fin L st (dM P a [u0, u1, u2, u3] h) := g_callS rfl h8
theorem v_callS5 {ix : Nat} {u0 u1 u2 u3 u4 : Value} (h8 : catS st ≤ 8) : dn P y ((.invokestatic ix, nx, a, 5, .null, ty, w) :: rs) fin L (u4 :: u3 :: u2 :: u1 :: u0 :: st) h = aft P y rs fin L st (dM P a [u0, u1, u2, u3, u4] h) := g_callS rfl h8
theorem v_callS6 {ix : Nat} {u0 u1 u2 u3 u4 u5 : Value} (h8 : catS st ≤ 8) : dn P y ((.invokestatic ix, nx, a, 6, .null, ty, w) :: rs) fin L (u5 :: u4 :: u3 :: u2 :: u1 :: u0 :: st) h = aft P y rs fin L st (dM P a [u0, u1, u2, u3, u4, u5] h) := g_callS rfl h8
theorem v_callV1 {ix cc x : Nat} (hk : h.kd x = some (.inl cc)) (h8 : catS st ≤ 8) : dn P y ((.invokevirtual ix, nx, a, 1, .ref cc, ty, w) :: rs) fin L (.ref x :: st) h = aft P y rs fin L st (dM P a [.ref x] h) := g_callV rfl hk h8
theorem v_callVS1 {ix cc x : Nat} (hk : h.kd x = some (.inl (cc + 1000))) (h8 : catS st ≤ 8) : dn P y ((.invokevirtual ix, nx, a, 1, .ref cc, ty, w) :: rs) fin L (.ref x :: st) h = aft P y rs fin L st (dM P a [.ref x] h) := g_callVS rfl hk h8
theorem v_callU1 {ix cc x : Nat} (hk : h.kd x = some (.inl cc)) (h8 : catS st ≤ 8) : dn P y ((.invokespecial ix, nx, a, 1, .ref cc, ty, w) :: rs) fin L (.ref x :: st) h = aft P y rs fin L st (dM P a [.ref x] h) := g_callU rfl hk h8
theorem v_callI1 {ix x : Nat} (h8 : catS st ≤ 8) : dn P y ((.invokespecial ix, nx, a, 1, .null, ty, w) :: rs) fin L (.ref x :: st) h = aft P y rs fin L st (dM P a [.ref x] h) := g_callI rfl h8
theorem v_callV2 {ix cc x : Nat} {u0 : Value} (hk : h.kd x = some (.inl cc)) (h8 : catS st ≤ 8) : dn P y ((.invokevirtual ix, nx, a, 2, .ref cc, ty, w) :: rs) fin L (u0 :: .ref x :: st) h = aft P y rs fin L st (dM P a [.ref x, u0] h) := g_callV rfl hk h8
theorem v_callVS2 {ix cc x : Nat} {u0 : Value} (hk : h.kd x = some (.inl (cc + 1000))) (h8 : catS st ≤ 8) : dn P y ((.invokevirtual ix, nx, a, 2, .ref cc, ty, w) :: rs) fin L (u0 :: .ref x :: st) h = aft P y rs fin L st (dM P a [.ref x, u0] h) := g_callVS rfl hk h8
theorem v_callU2 {ix cc x : Nat} {u0 : Value} (hk : h.kd x = some (.inl cc)) (h8 : catS st ≤ 8) : dn P y ((.invokespecial ix, nx, a, 2, .ref cc, ty, w) :: rs) fin L (u0 :: .ref x :: st) h = aft P y rs fin L st (dM P a [.ref x, u0] h) := g_callU rfl hk h8
theorem v_callI2 {ix x : Nat} {u0 : Value} (h8 : catS st ≤ 8) : dn P y ((.invokespecial ix, nx, a, 2, .null, ty, w) :: rs) fin L (u0 :: .ref x :: st) h = aft P y rs fin L st (dM P a [.ref x, u0] h) := g_callI rfl h8
theorem v_callV3 {ix cc x : Nat} {u0 u1 : Value} (hk : h.kd x = some (.inl cc)) (h8 : catS st ≤ 8) : dn P y ((.invokevirtual ix, nx, a, 3, .ref cc, ty, w) :: rs) fin L (u1 :: u0 :: .ref x :: st) h = aft P y rs fin L st (dM P a [.ref x, u0, u1] h) := g_callV rfl hk h8
theorem v_callVS3 {ix cc x : Nat} {u0 u1 : Value} (hk : h.kd x = some (.inl (cc + 1000))) (h8 : catS st ≤ 8) : dn P y ((.invokevirtual ix, nx, a, 3, .ref cc, ty, w) :: rs) fin L (u1 :: u0 :: .ref x :: st) h = aft P y rs fin L st (dM P a [.ref x, u0, u1] h) := g_callVS rfl hk h8
theorem v_callU3 {ix cc x : Nat} {u0 u1 : Value} (hk : h.kd x = some (.inl cc)) (h8 : catS st ≤ 8) : dn P y ((.invokespecial ix, nx, a, 3, .ref cc, ty, w) :: rs) fin L (u1 :: u0 :: .ref x :: st) h = aft P y rs fin L st (dM P a [.ref x, u0, u1] h) := g_callU rfl hk h8
theorem v_callI3 {ix x : Nat} {u0 u1 : Value} (h8 : catS st ≤ 8) : dn P y ((.invokespecial ix, nx, a, 3, .null, ty, w) :: rs) fin L (u1 :: u0 :: .ref x :: st) h = aft P y rs fin L st (dM P a [.ref x, u0, u1] h) := g_callI rfl h8
theorem v_callV4 {ix cc x : Nat} {u0 u1 u2 : Value} (hk : h.kd x = some (.inl cc)) (h8 : catS st ≤ 8) : dn P y ((.invokevirtual ix, nx, a, 4, .ref cc, ty, w) :: rs) fin L (u2 :: u1 :: u0 :: .ref x :: st) h = aft P y rs fin L st (dM P a [.ref x, u0, u1, u2] h) := g_callV rfl hk h8
theorem v_callVS4 {ix cc x : Nat} {u0 u1 u2 : Value} (hk : h.kd x = some (.inl (cc + 1000))) (h8 : catS st ≤ 8) : dn P y ((.invokevirtual ix, nx, a, 4, .ref cc, ty, w) :: rs) fin L (u2 :: u1 :: u0 :: .ref x :: st) h = aft P y rs fin L st (dM P a [.ref x, u0, u1, u2] h) := g_callVS rfl hk h8
theorem v_callU4 {ix cc x : Nat} {u0 u1 u2 : Value} (hk : h.kd x = some (.inl cc)) (h8 : catS st ≤ 8) : dn P y ((.invokespecial ix, nx, a, 4, .ref cc, ty, w) :: rs) fin L (u2 :: u1 :: u0 :: .ref x :: st) h = aft P y rs fin L st (dM P a [.ref x, u0, u1, u2] h) := g_callU rfl hk h8
theorem v_callI4 {ix x : Nat} {u0 u1 u2 : Value} (h8 : catS st ≤ 8) : dn P y ((.invokespecial ix, nx, a, 4, .null, ty, w) :: rs) fin L (u2 :: u1 :: u0 :: .ref x :: st) h = aft P y rs fin L st (dM P a [.ref x, u0, u1, u2] h) := g_callI rfl h8
theorem v_callV5 {ix cc x : Nat} {u0 u1 u2 u3 : Value} (hk : h.kd x = some (.inl cc)) (h8 : catS st ≤ 8) : dn P y ((.invokevirtual ix, nx, a, 5, .ref cc, ty, w) :: rs) fin L (u3 :: u2 :: u1 :: u0 :: .ref x :: st) h = aft P y rs fin L st (dM P a [.ref x, u0, u1, u2, u3] h) := g_callV rfl hk h8
theorem v_callVS5 {ix cc x : Nat} {u0 u1 u2 u3 : Value} (hk : h.kd x = some (.inl (cc + 1000))) (h8 : catS st ≤ 8) : dn P y ((.invokevirtual ix, nx, a, 5, .ref cc, ty, w) :: rs) fin L (u3 :: u2 :: u1 :: u0 :: .ref x :: st) h = aft P y rs fin L st (dM P a [.ref x, u0, u1, u2, u3] h) := g_callVS rfl hk h8
theorem v_callU5 {ix cc x : Nat} {u0 u1 u2 u3 : Value} (hk : h.kd x = some (.inl cc)) (h8 : catS st ≤ 8) : dn P y ((.invokespecial ix, nx, a, 5, .ref cc, ty, w) :: rs) fin L (u3 :: u2 :: u1 :: u0 :: .ref x :: st) h = aft P y rs fin L st (dM P a [.ref x, u0, u1, u2, u3] h) := g_callU rfl hk h8
theorem v_callI5 {ix x : Nat} {u0 u1 u2 u3 : Value} (h8 : catS st ≤ 8) : dn P y ((.invokespecial ix, nx, a, 5, .null, ty, w) :: rs) fin L (u3 :: u2 :: u1 :: u0 :: .ref x :: st) h = aft P y rs fin L st (dM P a [.ref x, u0, u1, u2, u3] h) := g_callI rfl h8
theorem v_callV6 {ix cc x : Nat} {u0 u1 u2 u3 u4 : Value} (hk : h.kd x = some (.inl cc)) (h8 : catS st ≤ 8) : dn P y ((.invokevirtual ix, nx, a, 6, .ref cc, ty, w) :: rs) fin L (u4 :: u3 :: u2 :: u1 :: u0 :: .ref x :: st) h = aft P y rs fin L st (dM P a [.ref x, u0, u1, u2, u3, u4] h) := g_callV rfl hk h8
theorem v_callVS6 {ix cc x : Nat} {u0 u1 u2 u3 u4 : Value} (hk : h.kd x = some (.inl (cc + 1000))) (h8 : catS st ≤ 8) : dn P y ((.invokevirtual ix, nx, a, 6, .ref cc, ty, w) :: rs) fin L (u4 :: u3 :: u2 :: u1 :: u0 :: .ref x :: st) h = aft P y rs fin L st (dM P a [.ref x, u0, u1, u2, u3, u4] h) := g_callVS rfl hk h8
theorem v_callU6 {ix cc x : Nat} {u0 u1 u2 u3 u4 : Value} (hk : h.kd x = some (.inl cc)) (h8 : catS st ≤ 8) : dn P y ((.invokespecial ix, nx, a, 6, .ref cc, ty, w) :: rs) fin L (u4 :: u3 :: u2 :: u1 :: u0 :: .ref x :: st) h = aft P y rs fin L st (dM P a [.ref x, u0, u1, u2, u3, u4] h) := g_callU rfl hk h8
theorem v_callI6 {ix x : Nat} {u0 u1 u2 u3 u4 : Value} (h8 : catS st ≤ 8) : dn P y ((.invokespecial ix, nx, a, 6, .null, ty, w) :: rs) fin L (u4 :: u3 :: u2 :: u1 :: u0 :: .ref x :: st) h = aft P y rs fin L st (dM P a [.ref x, u0, u1, u2, u3, u4] h) := g_callI rfl h8
end VEQ
theorem kd_si {h : Mm} {a k : Nat} {v : Int32} : (h.si a k v).kd = h.kd := rfl
theorem kd_sl {h : Mm} {a k : Nat} {v : Int64} : (h.sl a k v).kd = h.kd := rfl
theorem kd_sr {h : Mm} {a k : Nat} {v : Option Nat} : (h.sr a k v).kd = h.kd := rfl
theorem kd_sw {h : Mm} {a : Nat} {f : Nat → Int32} : (h.sw a f).kd = h.kd := rfl
theorem ml_si {h : Mm} {a k : Nat} {v : Int32} : (h.si a k v).ml = h.ml := rfl
theorem mr_si {h : Mm} {a k : Nat} {v : Int32} : (h.si a k v).mr = h.mr := rfl
theorem mi_sl {h : Mm} {a k : Nat} {v : Int64} : (h.sl a k v).mi = h.mi := rfl
theorem mr_sl {h : Mm} {a k : Nat} {v : Int64} : (h.sl a k v).mr = h.mr := rfl
theorem mi_sr {h : Mm} {a k : Nat} {v : Option Nat} : (h.sr a k v).mi = h.mi := rfl
theorem ml_sr {h : Mm} {a k : Nat} {v : Option Nat} : (h.sr a k v).ml = h.ml := rfl
theorem ml_sw {h : Mm} {a : Nat} {f : Nat → Int32} : (h.sw a f).ml = h.ml := rfl
theorem mr_sw {h : Mm} {a : Nat} {f : Nat → Int32} : (h.sw a f).mr = h.mr := rfl
theorem mi_sw {h : Mm} {a : Nat} {f : Nat → Int32} : (h.sw a f).mi a = f := if_pos rfl
theorem mi_swo {h : Mm} {a b : Nat} {f : Nat → Int32} (hb : b ≠ a) : (h.sw a f).mi b = h.mi b := if_neg hb
theorem si_sw {h : Mm} {a k : Nat} {v : Int32} : h.si a k v = h.sw a (zu (h.mi a) k v) := rfl
theorem sw_sw {h : Mm} {a : Nat} {f g : Nat → Int32} : (h.sw a f).sw a g = h.sw a g := by
  show (h.1, h.2.1, zu (zu h.mi a f) a g, h.ml, h.mr) = (h.1, h.2.1, zu h.mi a g, h.ml, h.mr)
  have e : zu (zu h.mi a f) a g = zu h.mi a g := by
    funext j; unfold zu; split <;> rfl
  rw [e]
theorem sw_id {h : Mm} {a : Nat} : h.sw a (h.mi a) = h := by
  show (h.1, h.2.1, zu h.mi a (h.mi a), h.ml, h.mr) = h
  have e : zu h.mi a (h.mi a) = h.mi := by
    funext j; unfold zu; split
    · rename_i e; rw [e]
    · rfl
  rw [e]; rfl
theorem sv_i {h : Mm} {a k : Nat} : slotV h a k .int = .int (h.mi a k) := rfl
theorem sv_z {h : Mm} {a k : Nat} : slotV h a k .boolean = .int (h.mi a k) := rfl
theorem sv_j {h : Mm} {a k : Nat} : slotV h a k .long = .long (h.ml a k) := rfl
theorem sv_o {h : Mm} {a k : Nat} {C : String} : slotV h a k (.object C) = va_rf (h.mr a k) := rfl
theorem sv_a {h : Mm} {a k : Nat} {t : FieldType} : slotV h a k (.array t) = va_rf (h.mr a k) := rfl
theorem rf_s {x : Nat} : va_rf (some x) = .ref x := rfl
theorem rf_n : va_rf none = .null := rfl
theorem cS_n : catS [] = 0 := rfl
theorem cS_i {x : Int32} {t : List Value} : catS (.int x :: t) = 1 + catS t := rfl
theorem cS_r {x : Nat} {t : List Value} : catS (.ref x :: t) = 1 + catS t := rfl
theorem cS_0 {t : List Value} : catS (.null :: t) = 1 + catS t := rfl
theorem cS_j {x : Int64} {t : List Value} : catS (.long x :: t) = 2 + catS t := rfl
