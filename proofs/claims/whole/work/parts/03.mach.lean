-- ===== an abstract machine over numbered cells; its memory: numbers (next cell, cells made, slots made), kinds of cells, int, long and reference rows =====
abbrev Kd : Type := Option (Nat ⊕ (FieldType × Nat))
def Mm : Type := (Nat × Nat × Nat) × (Nat → Kd) × (Nat → Nat → Int32) × (Nat → Nat → Int64) × (Nat → Nat → Option Nat)
def Mm.sz (h : Mm) : Nat := h.1.1
def Mm.nc (h : Mm) : Nat := h.1.2.1
def Mm.ns (h : Mm) : Nat := h.1.2.2
def Mm.kd (h : Mm) : Nat → Kd := h.2.1
def Mm.mi (h : Mm) : Nat → Nat → Int32 := h.2.2.1
def Mm.ml (h : Mm) : Nat → Nat → Int64 := h.2.2.2.1
def Mm.mr (h : Mm) : Nat → Nat → Option Nat := h.2.2.2.2
def zu {α : Type} (f : Nat → α) (k : Nat) (v : α) : Nat → α := fun j => if j = k then v else f j
def zu2 {α : Type} (f : Nat → Nat → α) (a k : Nat) (v : α) : Nat → Nat → α := fun b => if b = a then zu (f a) k v else f b
def Mm.si (h : Mm) (a k : Nat) (v : Int32) : Mm := (h.1, h.2.1, zu2 h.mi a k v, h.ml, h.mr)
def Mm.sl (h : Mm) (a k : Nat) (v : Int64) : Mm := (h.1, h.2.1, h.mi, zu2 h.ml a k v, h.mr)
def Mm.sr (h : Mm) (a k : Nat) (v : Option Nat) : Mm := (h.1, h.2.1, h.mi, h.ml, zu2 h.mr a k v)
def Mm.sw (h : Mm) (a : Nat) (f : Nat → Int32) : Mm := (h.1, h.2.1, zu h.mi a f, h.ml, h.mr)
def Mm.nw (h : Mm) (kd : Kd) (n : Nat) : Mm := ((h.sz + 1, h.nc + 1, h.ns + n), zu h.kd h.sz kd, zu h.mi h.sz (fun _ => 0), zu h.ml h.sz (fun _ => 0), zu h.mr h.sz (fun _ => none))
def Mm.thr (h : Mm) : Mm := ((h.sz, h.nc + 1, h.ns + 6), h.kd, h.mi, h.ml, h.mr)
-- ===== slots by their types =====
def slotV (h : Mm) (a k : Nat) (ty : FieldType) : Value := match ty with
  | .long => .long (h.ml a k)
  | .object _ => va_rf (h.mr a k)
  | .array _ => va_rf (h.mr a k)
  | _ => .int (h.mi a k)
def setS (h : Mm) (a k : Nat) (ty : FieldType) (v : Value) : Option Mm := match ty with
  | .long => (match v with
    | .long x => some (h.sl a k x)
    | _ => none)
  | .object _ => (match v with
    | .ref r => some (h.sr a k (some r))
    | .null => some (h.sr a k none)
    | _ => none)
  | .array _ => (match v with
    | .ref r => some (h.sr a k (some r))
    | .null => some (h.sr a k none)
    | _ => none)
  | .float => none
  | .double => none
  | t => (match v with
    | .int x => if fits t (.int x) = true then some (h.si a k x) else none
    | _ => none)
-- ===== locals: by their places; none: not known =====
abbrev Lc : Type := List (Option Value)
def killL (x : Option Value) : Option Value := match x with
  | some (.long _) => none
  | some (.double _) => none
  | y => y
def setL : Lc → Nat → Value → Lc
  | [], 0, v => [some v]
  | [], n + 1, v => none :: setL [] n v
  | _ :: t, 0, v => some v :: t
  | x :: t, 1, v => killL x :: setL t 0 v
  | x :: t, n + 2, v => x :: setL t (n + 1) v
def nonL : Lc → Nat → Lc
  | [], _ => []
  | _ :: t, 0 => none :: t
  | x :: t, n + 1 => x :: nonL t n
def setL2 (L : Lc) (n : Nat) (v : Value) : Lc := nonL (setL L n v) (n + 1)
/-- behind a caught exception, which the local n holds -/
def catL : Lc → Nat → Lc
  | [], _ => []
  | _ :: t, 0 => none :: t
  | x :: t, 1 => killL x :: catL t 0
  | x :: t, n + 2 => x :: catL t (n + 1)
def getL : Lc → Nat → Option Value
  | [], _ => none
  | x :: _, 0 => x
  | _ :: t, n + 1 => getL t n
def entL : List Value → Lc
  | [] => []
  | .long x :: t => some (.long x) :: none :: entL t
  | .double x :: t => some (.double x) :: none :: entL t
  | v :: t => some v :: entL t
-- ===== a row of a method's code: instruction, next pc, two numbers, a value, a type, a place in the tables of links =====
abbrev Rw : Type := Instr × Nat × Nat × Nat × Value × FieldType × Nat
abbrev Out : Type := Option Value ⊕ String
abbrev Rs : Type := Out × Mm
/-- what an instruction does: an end (or stuck), goes on, jumps, calls -/
abbrev Ef : Type := Option Rs ⊕ (Lc × List Value × Mm) ⊕ (Nat × Lc × List Value × Mm) ⊕ (Nat × List Value × Lc × List Value × Mm)
abbrev eX : Ef := .inl none
abbrev eR (o : Out) (h : Mm) : Ef := .inl (some (o, h))
abbrev eS (L : Lc) (st : List Value) (h : Mm) : Ef := .inr (.inl (L, st, h))
abbrev eJ (pc : Nat) (L : Lc) (st : List Value) (h : Mm) : Ef := .inr (.inr (.inl (pc, L, st, h)))
abbrev eC (y : Nat) (as : List Value) (L : Lc) (st : List Value) (h : Mm) : Ef := .inr (.inr (.inr (y, as, L, st, h)))
def ixN (i : Int32) (n : Nat) : Option Nat := if i < 0 ∨ n ≤ i.toNatClampNeg then none else some i.toNatClampNeg
def popA : Nat → List Value → List Value → Option (List Value × List Value)
  | 0, st, acc => some (acc, st)
  | n + 1, v :: st, acc => popA n st (v :: acc)
  | _ + 1, [], _ => none
def swT (pc : Nat) (d lo hi : Int) (offs : Array Int) (x : Int32) : Nat := if x.toInt < lo ∨ hi < x.toInt then ((pc : Int) + d).toNat else match offs[(x.toInt - lo).toNat]? with
  | some o => ((pc : Int) + o).toNat
  | none => 0
/-- copying between rows of ints or of bytes; the source may be a constant row of bytes -/
def cpyK (k0 k1 : Kd) : Option (Nat × Nat) := match k0, k1 with
  | some (.inr (.int, n0)), some (.inr (.int, n1)) => some (n0, n1)
  | some (.inr (.byte, n0)), some (.inr (.byte, n1)) => some (n0, n1)
  | some (.inr (.array .byte, n0)), some (.inr (.byte, n1)) => some (n0, n1)
  | _, _ => none
def aCpy (h : Mm) (p q : Nat) (sp dp n : Int32) : Option Mm := match cpyK (h.kd p) (h.kd q) with
  | none => none
  | some (n0, n1) => if sp < 0 ∨ dp < 0 ∨ n < 0 ∨ n0 < sp.toNatClampNeg + n.toNatClampNeg ∨ n1 < dp.toNatClampNeg + n.toNatClampNeg then none else some (h.sw q (va_cpy (h.mi p) (h.mi q) sp.toNatClampNeg dp.toNatClampNeg n.toNatClampNeg))
def oS (L : Lc) (st : List Value) (o : Option Mm) : Ef := match o with
  | some h => eS L st h
  | none => eX
def exN : Nat → String
  | 0 => "java/lang/IllegalStateException"
  | 1 => "java/lang/IndexOutOfBoundsException"
  | 2 => "java/lang/IllegalArgumentException"
  | _ => "java/util/NoSuchElementException"
/-- what is loaded from a row of ints, of bytes -/
def ldI (h : Mm) (p : Nat) (i : Int32) : Option Int32 := match h.kd p with
  | some (.inr (.int, n)) => (ixN i n).map (h.mi p)
  | some (.inr (.array .int, n)) => (ixN i n).map (h.mi p)
  | _ => none
def ldB (h : Mm) (p : Nat) (i : Int32) : Option Int32 := match h.kd p with
  | some (.inr (.byte, n)) => (ixN i n).map (h.mi p)
  | some (.inr (.array .byte, n)) => (ixN i n).map (h.mi p)
  | _ => none
def ldL (h : Mm) (p : Nat) (i : Int32) : Option Int64 := match h.kd p with
  | some (.inr (.long, n)) => (ixN i n).map (h.ml p)
  | _ => none
def ldA (h : Mm) (p : Nat) (i : Int32) : Option (Option Nat) := match h.kd p with
  | some (.inr (.object _, n)) => (ixN i n).map (h.mr p)
  | some (.inr (.array (.object _), n)) => (ixN i n).map (h.mr p)
  | _ => none
def stI (h : Mm) (p : Nat) (i x : Int32) : Option Mm := match h.kd p with
  | some (.inr (.int, n)) => (ixN i n).map (fun k => h.si p k x)
  | _ => none
def stB (h : Mm) (p : Nat) (i x : Int32) : Option Mm := match h.kd p with
  | some (.inr (.byte, n)) => (ixN i n).map (fun k => h.si p k x.toInt8.toInt32)
  | _ => none
def stJ (h : Mm) (p : Nat) (i : Int32) (x : Int64) : Option Mm := match h.kd p with
  | some (.inr (.long, n)) => (ixN i n).map (fun k => h.sl p k x)
  | _ => none
/-- into a row of references goes an object of the row's own class (its number c) -/
def stA (h : Mm) (c : Nat) (p : Nat) (i : Int32) (x : Nat) : Option Mm := match h.kd p with
  | some (.inr (.object _, n)) => if h.kd x = some (.inl c) then (ixN i n).map (fun k => h.sr p k (some x)) else none
  | _ => none
def lenA (h : Mm) (p : Nat) : Option Nat := match h.kd p with
  | some (.inr (_, n)) => some n
  | _ => none
def cat1 : Value → Bool
  | .long _ => false
  | .double _ => false
  | _ => true
def catS : List Value → Nat
  | [] => 0
  | v :: t => (if cat1 v = true then 1 else 2) + catS t
