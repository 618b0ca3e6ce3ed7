-- ===== the abstract memory: a product (numbers; kinds of cells; int, long and reference rows) =====
abbrev Kd : Type := Option (Nat ⊕ (FieldType × Nat))
def Mm : Type := (Nat × Nat × Nat × Nat) × (Nat → Kd) × (Nat → Nat → Int32) × (Nat → Nat → Int64) × (Nat → Nat → Option Nat)
def Mm.bs (h : Mm) : Nat := h.1.1
def Mm.sz (h : Mm) : Nat := h.1.2.1
def Mm.nc (h : Mm) : Nat := h.1.2.2.1
def Mm.ns (h : Mm) : Nat := h.1.2.2.2
def Mm.kd (h : Mm) : Nat → Kd := h.2.1
def Mm.mi (h : Mm) : Nat → Nat → Int32 := h.2.2.1
def Mm.ml (h : Mm) : Nat → Nat → Int64 := h.2.2.2.1
def Mm.mr (h : Mm) : Nat → Nat → Option Nat := h.2.2.2.2
def zu {α : Type} (f : Nat → α) (k : Nat) (v : α) : Nat → α := fun j => if j = k then v else f j
def zu2 {α : Type} (f : Nat → Nat → α) (a k : Nat) (v : α) : Nat → Nat → α := fun b => if b = a then zu (f a) k v else f b
def Mm.si (h : Mm) (a k : Nat) (v : Int32) : Mm := (h.1, h.2.1, zu2 h.mi a k v, h.ml, h.mr)
def Mm.sl (h : Mm) (a k : Nat) (v : Int64) : Mm := (h.1, h.2.1, h.mi, zu2 h.ml a k v, h.mr)
def Mm.sr (h : Mm) (a k : Nat) (v : Option Nat) : Mm := (h.1, h.2.1, h.mi, h.ml, zu2 h.mr a k v)
def Mm.wi (h : Mm) (m : Nat → Nat → Int32) : Mm := (h.1, h.2.1, m, h.ml, h.mr)
def Mm.mk (h : Mm) (kd : Kd) (n : Nat) : Mm := ((h.bs, h.sz + 1, h.nc + 1, h.ns + n), zu h.kd h.sz kd, zu h.mi h.sz (fun _ => 0), zu h.ml h.sz (fun _ => 0), zu h.mr h.sz (fun _ => none))
def Mm.thr (h : Mm) (n : Nat) : Mm := ((h.bs, n, h.nc + 1, h.ns + 6), h.kd, h.mi, h.ml, h.mr)
def Mm.bump (h : Mm) (dc ds : Nat) : Mm := ((h.bs, h.sz, h.nc + dc, h.ns + ds), h.kd, h.mi, h.ml, h.mr)
-- ===== values of slots =====
def slotV (h : Mm) (a k : Nat) (ty : FieldType) : Value := match ty with
  | .long => .long (h.ml a k)
  | .object _ => va_rf (h.mr a k)
  | .array _ => va_rf (h.mr a k)
  | .float => .float 0
  | .double => .double 0
  | _ => .int (h.mi a k)
-- ===== locals: by their places; none: not known =====
abbrev Lc : Type := List (Option Value)
def killL (x : Option Value) : Option Value := match x with
  | some (.long _) => none
  | some (.double _) => none
  | y => y
def setL : Lc → Nat → Value → Lc
  | [], 0, v => [some v]
  | [], n + 1, v => none :: setL [] n v
  | _ :: t, 0, v => some v :: t
  | x :: t, 1, v => killL x :: setL t 0 v
  | x :: t, n + 2, v => x :: setL t (n + 1) v
def nonL : Lc → Nat → Lc
  | [], _ => []
  | _ :: t, 0 => none :: t
  | x :: t, n + 1 => x :: nonL t n
def setL2 (L : Lc) (n : Nat) (v : Value) : Lc := nonL (setL L n v) (n + 1)
def entL : List Value → Lc
  | [] => []
  | v :: t => if v.category = 2 then some v :: none :: entL t else some v :: entL t
-- ===== a row of a method's table: pc, instruction, next pc, two numbers, an int, a long =====
abbrev Rw : Type := Nat × Instr × Nat × Nat × Nat × Int32 × Int64
def rowAt : List Rw → Nat → Option Rw
  | [], _ => none
  | r :: t, pc => if Nat.beq r.1 pc then some r else rowAt t pc
abbrev Out : Type := Option Value ⊕ String
def p1i (st : List Value) (k : Int32 → List Value → Prop) : Prop := match st with
  | .int x :: r => k x r
  | _ => False
def p2i (st : List Value) (k : Int32 → Int32 → List Value → Prop) : Prop := match st with
  | .int y :: .int x :: r => k x y r
  | _ => False
def p1l (st : List Value) (k : Int64 → List Value → Prop) : Prop := match st with
  | .long x :: r => k x r
  | _ => False
def p2l (st : List Value) (k : Int64 → Int64 → List Value → Prop) : Prop := match st with
  | .long y :: .long x :: r => k x y r
  | _ => False
def p1r (st : List Value) (k : Nat → List Value → Prop) : Prop := match st with
  | .ref a :: r => k a r
  | _ => False
def pir (st : List Value) (k : Int32 → Nat → List Value → Prop) : Prop := match st with
  | .int i :: .ref a :: r => k i a r
  | _ => False
def piir (st : List Value) (k : Int32 → Int32 → Nat → List Value → Prop) : Prop := match st with
  | .int v :: .int i :: .ref a :: r => k v i a r
  | _ => False
def plir (st : List Value) (k : Int64 → Int32 → Nat → List Value → Prop) : Prop := match st with
  | .long v :: .int i :: .ref a :: r => k v i a r
  | _ => False
def prir (st : List Value) (k : Nat → Int32 → Nat → List Value → Prop) : Prop := match st with
  | .ref v :: .int i :: .ref a :: r => k v i a r
  | _ => False
def getI (L : Lc) (n : Nat) (k : Int32 → Prop) : Prop := match L[n]? with
  | some (some (.int x)) => k x
  | _ => False
def getJ (L : Lc) (n : Nat) (k : Int64 → Prop) : Prop := match L[n]? with
  | some (some (.long x)) => k x
  | _ => False
def getA (L : Lc) (n : Nat) (k : Nat → Prop) (kn : Prop) : Prop := match L[n]? with
  | some (some (.ref x)) => k x
  | some (some .null) => kn
  | _ => False
def br2 (c : Jvm.ClassFile.Cond) (x y : Int32) (t f : Prop) : Prop := match c with
  | .eq => (x = y → t) ∧ (¬ x = y → f)
  | .ne => (¬ x = y → t) ∧ (x = y → f)
  | .lt => (x < y → t) ∧ (¬ x < y → f)
  | .ge => (y ≤ x → t) ∧ (¬ y ≤ x → f)
  | .gt => (y < x → t) ∧ (¬ y < x → f)
  | .le => (x ≤ y → t) ∧ (¬ x ≤ y → f)
def popA : Nat → List Value → List Value → Option (List Value × List Value)
  | 0, st, acc => some (acc, st)
  | n + 1, v :: st, acc => popA n st (v :: acc)
  | _ + 1, [], _ => none
def catS : List Value → Nat
  | [] => 0
  | v :: t => v.category + catS t
