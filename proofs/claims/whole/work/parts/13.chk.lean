-- ===== a row is as the code has it, and its numbers are as the tables have them =====
abbrev MIt.own (e : MIt) : String := e.1.cls
abbrev MIt.bytes (e : MIt) : ByteArray := e.2.1
abbrev MIt.maxL (e : MIt) : Nat := e.2.2.1
abbrev MIt.ret (e : MIt) : Option FieldType := e.2.2.2.1
abbrev MIt.lev (e : MIt) : Nat := e.2.2.2.2.1
abbrev MIt.kind (e : MIt) : Nat := e.2.2.2.2.2.1
abbrev MIt.rc (e : MIt) : Nat := e.2.2.2.2.2.2.1
abbrev MIt.pars (e : MIt) : Nat := e.2.2.2.2.2.2.2
/-- a field by the classes' tables -/
def fldB (f : FRt) (a b : Nat) (ty : FieldType) : Bool := match cTab[a]? with
  | some q => decide (b < q.2.2.1) && decide ((q.2.1 b).1 = f.2.2.2.2.1) && decide ((q.2.1 b).2.1 = f.2.2.2.2.2.1) && decide ((q.2.1 b).2.2.1 = f.2.2.2.2.2.2.1) && decide (q.2.2.2 b = ty)
  | none => false
def sfB (f : FRt) (a b : Nat) (ty : FieldType) : Bool := decide ((a, b, f.2.2.2.2.1, f.2.2.2.2.2.1, f.2.2.2.2.2.2.1, ty) ∈ sfld)
def getB (own : String) (ix w a b : Nat) (ty : FieldType) : Bool := match FR[w]? with
  | some f => decide (f.1 = own) && decide (f.2.1 = ix) && ((decide (a = 11) && sfB f a b ty) || (decide (a ≠ 11) && fldB f a b ty && (decide (a ≠ 9) || sfB f a b ty)))
  | none => false
def finB (a b : Nat) : Bool := match cTab[a]? with
  | some q => (q.2.1 b).2.2.2
  | none => true
def putB (own : String) (init : Bool) (ix w a b : Nat) (ty : FieldType) : Bool := match FR[w]? with
  | some f => decide (f.1 = own) && decide (f.2.1 = ix) && decide (a < 11) && fldB f a b ty && (!(finB a b) || (init && decide (f.2.2.2.2.1 = own) && decide (f.2.2.2.2.2.2.2 = "")))
  | none => false
def gsB (own : String) (ix w : Nat) (v : Value) : Bool := match GS[w]? with
  | some g => decide (g.1 = own) && decide (g.2.1 = ix) && decide (g.2.2.2.2.2.2 = v) && decide ((g.2.2.1, g.2.2.2.1, g.2.2.2.2.1, v) ∈ sFld)
  | none => false
def ldcB (own : String) (ix w b : Nat) (v : Value) : Bool := if b = 0 then (match KR[w]? with
    | some k => decide (k.1 = own) && decide (k.2.1 = ix) && decide (v = .int k.2.2)
    | none => false)
  else (match SR[w]? with
    | some k => decide (k.1 = own) && decide (k.2.1 = ix) && decide (v = .ref k.2.2.2)
    | none => false)
def ldc2B (own : String) (ix w : Nat) (v : Value) : Bool := match KL[w]? with
  | some k => decide (k.1 = own) && decide (k.2.1 = ix) && decide (v = .long k.2.2)
  | none => false
def newB (own : String) (ix w a b : Nat) : Bool := match CR[w]? with
  | some k => decide (k.1 = own) && decide (k.2.1 = ix) && decide (k.2.2 = a) && decide (a < 11) && decide (fszC a = b)
  | none => false
def thrB (e : MIt) (pc ix w a b : Nat) : Bool := match XR[w]? with
  | some k => decide (k.1 = e.own) && decide (k.2.1 = ix) && decide (k.2.2.2.2.1 = a) && decide (a < 4) && decide (decode e.bytes (pc + 3) = .ok (.dup, 1)) && decide (e.kind ≠ 3) &&
    (if b = 0 then decide (decode e.bytes (pc + 4) = .ok (.ldc k.2.2.1, 2)) && decide (decode e.bytes (pc + 6) = .ok (.invokespecial k.2.2.2.1, 3)) && decide (decode e.bytes (pc + 9) = .ok (.athrow, 1))
     else decide (decode e.bytes (pc + 4) = .ok (.ldc_w k.2.2.1, 3)) && decide (decode e.bytes (pc + 7) = .ok (.invokespecial k.2.2.2.1, 3)) && decide (decode e.bytes (pc + 10) = .ok (.athrow, 1)))
  | none => false
/-- a call: entry, kind, receiver; the callee's level is less -/
def calB (e : MIt) (ix w a b : Nat) (v : Value) (ks : List Nat) : Bool := match MR[w]?, MI[a]? with
  | some k, some z => decide (k.1 = e.own) && decide (k.2.1 = ix) && decide (k.2.2.1 = a) && ks.contains k.2.2.2.1 && decide (z.lev < e.lev) && decide (a ≠ 0) && decide (z.maxL ≤ 40) &&
    (match k.2.2.2.1 with
    | 0 => decide (z.kind = 0) && decide (b = z.pars + 1) && decide (v = .ref z.rc) && decide (k.2.2.2.2.2 = "") && !(sSup.contains a) && decide (z.rc < 11)
    | 1 => decide (z.kind = 0) && decide (b = z.pars + 1) && decide (v = .ref z.rc) && decide (k.2.2.2.2.2 ≠ "") && !(sSup.contains a) && decide (z.rc < 11)
    | 2 => decide (z.kind = 1) && decide (b = z.pars) && decide (v = .null) && decide (k.2.2.2.2.2 = "")
    | 3 => decide (z.kind = 1) && decide (b = z.pars) && decide (v = .null) && decide (k.2.2.2.2.2 ≠ "")
    | 4 => decide (z.kind = 2) && decide (b = z.pars + 1) && decide (v = .null) && decide (k.2.2.2.2.2 = "")
    | 5 => decide (z.kind = 2) && decide (b = z.pars + 1) && decide (v = .null) && decide (k.2.2.2.2.2 ≠ "")
    | 6 => sSup.contains a && decide (z.kind = 0) && decide (b = z.pars + 1) && decide (v = .ref z.rc) && decide (k.2.2.2.2.2 = "") && decide (e.own = "java/lang/StringBuilder") && decide (z.own = "java/lang/AbstractStringBuilder") && decide (z.rc = 10)
    | 7 => decide (z.kind = 3) && decide (b = z.pars) && decide (v = .null) && decide (k.2.2.2.2.2 = "")
    | 8 => decide (z.kind = 0) && decide (b = z.pars + 1) && decide (v = .ref z.rc) && decide (z.rc = 10) && decide (z.1 = ⟨"java/lang/StringBuilder", "length", "()I"⟩) && decide (k.2.2.2.2.2 = "")
    | _ => false)
  | _, _ => false
def annB (e : MIt) (pc : Nat) (r : Rw) : Bool := match r with
  | (ins, nx, a, b, v, ty, w) => match ins with
    | .iconst n => decide (v = .int (Int32.ofInt n)) && decide (nx = pc + 1)
    | .bipush n => decide (v = .int (Int8.ofInt n).toInt32) && decide (nx = pc + 2)
    | .sipush n => decide (v = .int (Int16.ofInt n).toInt32) && decide (nx = pc + 3)
    | .lconst n => decide (v = .long (Int64.ofNat (n : Nat))) && decide (nx = pc + 1)
    | .ldc ix => ldcB e.own ix w b v && decide (nx = pc + 2)
    | .ldc_w ix => ldcB e.own ix w b v && decide (nx = pc + 3)
    | .ldc2_w ix => ldc2B e.own ix w v && decide (nx = pc + 3)
    | .getstatic ix => gsB e.own ix w v && decide (nx = pc + 3)
    | .aconst_null => decide (nx = pc + 1)
    | .iload i => decide (a = i) && decide (nx = pc + 2)
    | .lload i => decide (a = i) && decide (nx = pc + 2)
    | .aload i => decide (a = i) && decide (nx = pc + 2)
    | .istore i => decide (a = i) && decide (nx = pc + 2) && decide (a < e.maxL)
    | .lstore i => decide (a = i) && decide (nx = pc + 2) && decide (a + 1 < e.maxL)
    | .astore i => decide (a = i) && decide (nx = pc + 2) && decide (a < e.maxL)
    | .iload_n i => decide (a = (i : Nat)) && decide (nx = pc + 1)
    | .lload_n i => decide (a = (i : Nat)) && decide (nx = pc + 1)
    | .aload_n i => decide (a = (i : Nat)) && decide (nx = pc + 1)
    | .istore_n i => decide (a = (i : Nat)) && decide (nx = pc + 1) && decide (a < e.maxL)
    | .lstore_n i => decide (a = (i : Nat)) && decide (nx = pc + 1) && decide (a + 1 < e.maxL)
    | .astore_n i => decide (a = (i : Nat)) && decide (nx = pc + 1) && decide (a < e.maxL)
    | .iinc i n => decide (a = i) && decide (v = .int (Int32.ofInt n)) && decide (nx = pc + 3) && decide (a < e.maxL)
    | .goto off => decide ((pc : Int) + off = (a : Int)) && decide (nx = pc + 3)
    | .ifCond _ off => decide ((pc : Int) + off = (a : Int)) && decide (nx = pc + 3)
    | .if_icmp _ off => decide ((pc : Int) + off = (a : Int)) && decide (nx = pc + 3)
    | .ifnull off => decide ((pc : Int) + off = (a : Int)) && decide (nx = pc + 3)
    | .ifnonnull off => decide ((pc : Int) + off = (a : Int)) && decide (nx = pc + 3)
    | .tableswitch d lo hi offs => decide (a = pc) && decide (0 ≤ (pc : Int) + d) && offs.toList.all (fun o => decide (0 ≤ (pc : Int) + o)) && decide ((offs.size : Int) = hi - lo + 1)
    | .getfield ix => getB e.own ix w a b ty && decide (nx = pc + 3)
    | .putfield ix => putB e.own (e.kind == 2) ix w a b ty && decide (nx = pc + 3)
    | .new ix => (match v with
      | .null => newB e.own ix w a b && decide (nx = pc + 3)
      | _ => thrB e pc ix w a b && decide (nx = pc + 3) && decide (v = .int 1))
    | .newarray at_ => decide (newarray.typeOf at_ = ty) && (decide (ty = .int) || decide (ty = .byte) || decide (ty = .long)) && decide (nx = pc + 2)
    | .anewarray ix => decide (ty = tyS) && decide (AR[w]? = some (e.own, ix)) && decide (nx = pc + 3)
    | .aastore => decide (a = 5) && decide (nx = pc + 1)
    | .invokevirtual ix => calB e ix w a b v [0, 1, 8] && decide (nx = pc + 3)
    | .invokestatic ix => (match v with
      | .null => calB e ix w a b v [2, 3, 7]
      | _ => decide (IR[w]? = some (e.own, ix, b)) && decide (v = .int 1)) && decide (nx = pc + 3)
    | .invokespecial ix => (match v with
      | .null => calB e ix w a b v [4, 5]
      | .ref _ => calB e ix w a b v [6]
      | _ => decide (OI[w]? = some (e.own, ix)) && decide (v = .int 1)) && decide (nx = pc + 3)
    | .areturn => decide (nx = pc + 1) && (match e.ret with
      | some (.object _) => true
      | some (.array _) => true
      | _ => false)
    | _ => decide (nx = pc + 1) && decide (v = .null)
def rowB (e : MIt) (pc : Nat) (r : Rw) : Bool := decide (decode e.bytes pc = .ok (r.1, r.2.1 - pc)) && annB e pc r
/-- a block from pc on; where it goes on -/
def rowsB (e : MIt) : Nat → List Rw → Nat → Bool
  | pc, [], fin => decide (fin = pc) || decide (fin = 99999)
  | pc, r :: rs, fin => rowB e pc r && rowsB e r.2.1 rs fin
