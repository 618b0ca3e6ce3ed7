-- ===== one equation an instruction =====
def retX (t : Option FieldType) (x : Int32) (h : Mm) : Option Rs := match t with
  | some t => if fits t (.int x) = true then some (.inl (some (.int x)), h) else none
  | none => none
theorem retX_int {x : Int32} {h : Mm} : retX (some .int) x h = some (.inl (some (.int x)), h) := rfl
theorem retX_bool {x : Int32} {h : Mm} : retX (some .boolean) x h = if x = 0 ∨ x = 1 then some (.inl (some (.int x)), h) else none := by
  show (if fits .boolean (.int x) = true then _ else _) = _
  have e : (fits .boolean (.int x) = true) = (x = 0 ∨ x = 1) := by simp [fits]
  simp only [e]
/-- behind a call -/
noncomputable def aft (P : Pg) (y : Nat) (rs : List Rw) (fin : Nat) (L : Lc) (r : List Value) (o : Option Rs) : Option Rs := match o with
  | some (.inl (some v), h) => dn P y rs fin L (v :: r) h
  | some (.inl none, h) => dn P y rs fin L r h
  | some (.inr E, h) => (match P.2.2.1 y E with
    | some (pc, n) => dB P y pc (catL L n) [] h
    | none => some (.inr E, h))
  | none => none
section GEQ
variable {P : Pg} {y fin nx a b w : Nat} {v : Value} {ty : FieldType} {rs : List Rw} {L : Lc} {st : List Value} {h : Mm}
theorem aft_v {x : Value} {r : List Value} {h2 : Mm} : aft P y rs fin L r (some (.inl (some x), h2)) = dn P y rs fin L (x :: r) h2 := rfl
theorem aft_n {r : List Value} {h2 : Mm} : aft P y rs fin L r (some (.inl none, h2)) = dn P y rs fin L r h2 := rfl
theorem g_iconst {n : Int} : dn P y ((.iconst n, nx, a, b, v, ty, w) :: rs) fin L st h = dn P y rs fin L (v :: st) h := by rw [dn_cons]; rfl
theorem g_bipush {n : Int} : dn P y ((.bipush n, nx, a, b, v, ty, w) :: rs) fin L st h = dn P y rs fin L (v :: st) h := by rw [dn_cons]; rfl
theorem g_sipush {n : Int} : dn P y ((.sipush n, nx, a, b, v, ty, w) :: rs) fin L st h = dn P y rs fin L (v :: st) h := by rw [dn_cons]; rfl
theorem g_lconst {n : Fin 2} : dn P y ((.lconst n, nx, a, b, v, ty, w) :: rs) fin L st h = dn P y rs fin L (v :: st) h := by rw [dn_cons]; rfl
theorem g_ldc {n : Nat} : dn P y ((.ldc n, nx, a, b, v, ty, w) :: rs) fin L st h = dn P y rs fin L (v :: st) h := by rw [dn_cons]; rfl
theorem g_ldc_w {n : Nat} : dn P y ((.ldc_w n, nx, a, b, v, ty, w) :: rs) fin L st h = dn P y rs fin L (v :: st) h := by rw [dn_cons]; rfl
theorem g_ldc2_w {n : Nat} : dn P y ((.ldc2_w n, nx, a, b, v, ty, w) :: rs) fin L st h = dn P y rs fin L (v :: st) h := by rw [dn_cons]; rfl
theorem g_getstatic {n : Nat} : dn P y ((.getstatic n, nx, a, b, v, ty, w) :: rs) fin L st h = dn P y rs fin L (v :: st) h := by rw [dn_cons]; rfl
theorem g_aconst_null  : dn P y ((.aconst_null, nx, a, b, v, ty, w) :: rs) fin L st h = dn P y rs fin L (.null :: st) h := by rw [dn_cons]; rfl
theorem g_iload {n : Nat} {x : Int32} (hx : getL L a = some (.int x)) : dn P y ((.iload n, nx, a, b, v, ty, w) :: rs) fin L st h = dn P y rs fin L (.int x :: st) h := by
  rw [dn_cons]; dsimp only [eff]; rw [hx]; rfl
theorem g_iload_n {n : Fin 4} {x : Int32} (hx : getL L a = some (.int x)) : dn P y ((.iload_n n, nx, a, b, v, ty, w) :: rs) fin L st h = dn P y rs fin L (.int x :: st) h := by
  rw [dn_cons]; dsimp only [eff]; rw [hx]; rfl
theorem g_lload {n : Nat} {x : Int64} (hx : getL L a = some (.long x)) : dn P y ((.lload n, nx, a, b, v, ty, w) :: rs) fin L st h = dn P y rs fin L (.long x :: st) h := by
  rw [dn_cons]; dsimp only [eff]; rw [hx]; rfl
theorem g_lload_n {n : Fin 4} {x : Int64} (hx : getL L a = some (.long x)) : dn P y ((.lload_n n, nx, a, b, v, ty, w) :: rs) fin L st h = dn P y rs fin L (.long x :: st) h := by
  rw [dn_cons]; dsimp only [eff]; rw [hx]; rfl
theorem g_aload {n : Nat} {x : Nat} (hx : getL L a = some (.ref x)) : dn P y ((.aload n, nx, a, b, v, ty, w) :: rs) fin L st h = dn P y rs fin L (.ref x :: st) h := by
  rw [dn_cons]; dsimp only [eff]; rw [hx]; rfl
theorem g_aload_n {n : Fin 4} {x : Nat} (hx : getL L a = some (.ref x)) : dn P y ((.aload_n n, nx, a, b, v, ty, w) :: rs) fin L st h = dn P y rs fin L (.ref x :: st) h := by
  rw [dn_cons]; dsimp only [eff]; rw [hx]; rfl
theorem g_istore {n : Nat} {x : Int32} : dn P y ((.istore n, nx, a, b, v, ty, w) :: rs) fin L (.int x :: st) h = dn P y rs fin (setL L a (.int x)) st h := by rw [dn_cons]; rfl
theorem g_istore_n {n : Fin 4} {x : Int32} : dn P y ((.istore_n n, nx, a, b, v, ty, w) :: rs) fin L (.int x :: st) h = dn P y rs fin (setL L a (.int x)) st h := by rw [dn_cons]; rfl
theorem g_lstore {n : Nat} {x : Int64} : dn P y ((.lstore n, nx, a, b, v, ty, w) :: rs) fin L (.long x :: st) h = dn P y rs fin (setL2 L a (.long x)) st h := by rw [dn_cons]; rfl
theorem g_lstore_n {n : Fin 4} {x : Int64} : dn P y ((.lstore_n n, nx, a, b, v, ty, w) :: rs) fin L (.long x :: st) h = dn P y rs fin (setL2 L a (.long x)) st h := by rw [dn_cons]; rfl
theorem g_astore {n : Nat} {x : Nat} : dn P y ((.astore n, nx, a, b, v, ty, w) :: rs) fin L (.ref x :: st) h = dn P y rs fin (setL L a (.ref x)) st h := by rw [dn_cons]; rfl
theorem g_astore_n {n : Fin 4} {x : Nat} : dn P y ((.astore_n n, nx, a, b, v, ty, w) :: rs) fin L (.ref x :: st) h = dn P y rs fin (setL L a (.ref x)) st h := by rw [dn_cons]; rfl
theorem g_astoreN {n : Nat} : dn P y ((.astore n, nx, a, b, v, ty, w) :: rs) fin L (.null :: st) h = dn P y rs fin (setL L a .null) st h := by rw [dn_cons]; rfl
theorem g_aloadN {n : Nat} (hx : getL L a = some .null) : dn P y ((.aload n, nx, a, b, v, ty, w) :: rs) fin L st h = dn P y rs fin L (.null :: st) h := by
  rw [dn_cons]; dsimp only [eff]; rw [hx]; rfl
theorem g_astore_nN {n : Fin 4} : dn P y ((.astore_n n, nx, a, b, v, ty, w) :: rs) fin L (.null :: st) h = dn P y rs fin (setL L a .null) st h := by rw [dn_cons]; rfl
theorem g_aload_nN {n : Fin 4} (hx : getL L a = some .null) : dn P y ((.aload_n n, nx, a, b, v, ty, w) :: rs) fin L st h = dn P y rs fin L (.null :: st) h := by
  rw [dn_cons]; dsimp only [eff]; rw [hx]; rfl
theorem g_iinc {n : Nat} {i : Int} {x z : Int32} (hx : getL L a = some (.int x)) : dn P y ((.iinc n i, nx, a, b, .int z, ty, w) :: rs) fin L st h = dn P y rs fin (setL L a (.int (x + z))) st h := by
  rw [dn_cons]; dsimp only [eff]; rw [hx]; rfl
theorem g_iadd {x z : Int32} : dn P y ((.iadd, nx, a, b, v, ty, w) :: rs) fin L (.int z :: .int x :: st) h = dn P y rs fin L (.int (x + z) :: st) h := by rw [dn_cons]; rfl
theorem g_isub {x z : Int32} : dn P y ((.isub, nx, a, b, v, ty, w) :: rs) fin L (.int z :: .int x :: st) h = dn P y rs fin L (.int (x - z) :: st) h := by rw [dn_cons]; rfl
theorem g_imul {x z : Int32} : dn P y ((.imul, nx, a, b, v, ty, w) :: rs) fin L (.int z :: .int x :: st) h = dn P y rs fin L (.int (x * z) :: st) h := by rw [dn_cons]; rfl
theorem g_iand {x z : Int32} : dn P y ((.iand, nx, a, b, v, ty, w) :: rs) fin L (.int z :: .int x :: st) h = dn P y rs fin L (.int (x &&& z) :: st) h := by rw [dn_cons]; rfl
theorem g_ior {x z : Int32} : dn P y ((.ior, nx, a, b, v, ty, w) :: rs) fin L (.int z :: .int x :: st) h = dn P y rs fin L (.int (x ||| z) :: st) h := by rw [dn_cons]; rfl
theorem g_ixor {x z : Int32} : dn P y ((.ixor, nx, a, b, v, ty, w) :: rs) fin L (.int z :: .int x :: st) h = dn P y rs fin L (.int (x ^^^ z) :: st) h := by rw [dn_cons]; rfl
theorem g_ishl {x z : Int32} : dn P y ((.ishl, nx, a, b, v, ty, w) :: rs) fin L (.int z :: .int x :: st) h = dn P y rs fin L (.int (x <<< (z &&& 31)) :: st) h := by rw [dn_cons]; rfl
theorem g_ishr {x z : Int32} : dn P y ((.ishr, nx, a, b, v, ty, w) :: rs) fin L (.int z :: .int x :: st) h = dn P y rs fin L (.int (x >>> (z &&& 31)) :: st) h := by rw [dn_cons]; rfl
theorem g_iushr {x z : Int32} : dn P y ((.iushr, nx, a, b, v, ty, w) :: rs) fin L (.int z :: .int x :: st) h = dn P y rs fin L (.int (x.toUInt32 >>> (z.toUInt32 &&& Int32.toUInt32 31)).toInt32 :: st) h := by rw [dn_cons]; rfl
theorem g_ineg {x : Int32} : dn P y ((.ineg, nx, a, b, v, ty, w) :: rs) fin L (.int x :: st) h = dn P y rs fin L (.int (-x) :: st) h := by rw [dn_cons]; rfl
theorem g_ladd {x z : Int64} : dn P y ((.ladd, nx, a, b, v, ty, w) :: rs) fin L (.long z :: .long x :: st) h = dn P y rs fin L (.long (x + z) :: st) h := by rw [dn_cons]; rfl
theorem g_lsub {x z : Int64} : dn P y ((.lsub, nx, a, b, v, ty, w) :: rs) fin L (.long z :: .long x :: st) h = dn P y rs fin L (.long (x - z) :: st) h := by rw [dn_cons]; rfl
theorem g_lmul {x z : Int64} : dn P y ((.lmul, nx, a, b, v, ty, w) :: rs) fin L (.long z :: .long x :: st) h = dn P y rs fin L (.long (x * z) :: st) h := by rw [dn_cons]; rfl
theorem g_land {x z : Int64} : dn P y ((.land, nx, a, b, v, ty, w) :: rs) fin L (.long z :: .long x :: st) h = dn P y rs fin L (.long (x &&& z) :: st) h := by rw [dn_cons]; rfl
theorem g_lshr {x : Int64} {z : Int32} : dn P y ((.lshr, nx, a, b, v, ty, w) :: rs) fin L (.int z :: .long x :: st) h = dn P y rs fin L (.long (x >>> (z.toInt64 &&& 63)) :: st) h := by rw [dn_cons]; rfl
theorem g_lcmp {x z : Int64} : dn P y ((.lcmp, nx, a, b, v, ty, w) :: rs) fin L (.long z :: .long x :: st) h = dn P y rs fin L (.int (lg_cmp x z) :: st) h := by rw [dn_cons]; rfl
theorem g_i2l {x : Int32} : dn P y ((.i2l, nx, a, b, v, ty, w) :: rs) fin L (.int x :: st) h = dn P y rs fin L (.long x.toInt64 :: st) h := by rw [dn_cons]; rfl
theorem g_l2i {x : Int64} : dn P y ((.l2i, nx, a, b, v, ty, w) :: rs) fin L (.long x :: st) h = dn P y rs fin L (.int x.toInt32 :: st) h := by rw [dn_cons]; rfl
theorem g_i2b {x : Int32} : dn P y ((.i2b, nx, a, b, v, ty, w) :: rs) fin L (.int x :: st) h = dn P y rs fin L (.int x.toInt8.toInt32 :: st) h := by rw [dn_cons]; rfl
theorem g_i2c {x : Int32} : dn P y ((.i2c, nx, a, b, v, ty, w) :: rs) fin L (.int x :: st) h = dn P y rs fin L (.int (x.toUInt32 % 65536).toInt32 :: st) h := by rw [dn_cons]; rfl
theorem g_idiv {x z : Int32} : dn P y ((.idiv, nx, a, b, v, ty, w) :: rs) fin L (.int z :: .int x :: st) h = if z = 0 then none else dn P y rs fin L (.int (x / z) :: st) h := by
  rw [dn_cons]; dsimp only [eff]; split <;> rfl
theorem g_irem {x z : Int32} : dn P y ((.irem, nx, a, b, v, ty, w) :: rs) fin L (.int z :: .int x :: st) h = if z = 0 then none else dn P y rs fin L (.int (x - x / z * z) :: st) h := by
  rw [dn_cons]; dsimp only [eff]; split <;> rfl
theorem g_ldiv {x z : Int64} : dn P y ((.ldiv, nx, a, b, v, ty, w) :: rs) fin L (.long z :: .long x :: st) h = if z = 0 then none else dn P y rs fin L (.long (x / z) :: st) h := by
  rw [dn_cons]; dsimp only [eff]; split <;> rfl
theorem g_if_eq {x : Int32} {off : Int} : dn P y ((.ifCond .eq off, nx, a, b, v, ty, w) :: rs) fin L (.int x :: st) h = if x = 0 then dB P y a L st h else dn P y rs fin L st h := by
  rw [dn_cons]; dsimp only [eff]; split <;> rfl
theorem g_if_ne {x : Int32} {off : Int} : dn P y ((.ifCond .ne off, nx, a, b, v, ty, w) :: rs) fin L (.int x :: st) h = if x = 0 then dn P y rs fin L st h else dB P y a L st h := by
  rw [dn_cons]; dsimp only [eff]; split <;> rfl
theorem g_if_lt {x : Int32} {off : Int} : dn P y ((.ifCond .lt off, nx, a, b, v, ty, w) :: rs) fin L (.int x :: st) h = if x < 0 then dB P y a L st h else dn P y rs fin L st h := by
  rw [dn_cons]; dsimp only [eff]; split <;> rfl
theorem g_if_ge {x : Int32} {off : Int} : dn P y ((.ifCond .ge off, nx, a, b, v, ty, w) :: rs) fin L (.int x :: st) h = if 0 ≤ x then dB P y a L st h else dn P y rs fin L st h := by
  rw [dn_cons]; dsimp only [eff]; split <;> rfl
theorem g_if_gt {x : Int32} {off : Int} : dn P y ((.ifCond .gt off, nx, a, b, v, ty, w) :: rs) fin L (.int x :: st) h = if 0 < x then dB P y a L st h else dn P y rs fin L st h := by
  rw [dn_cons]; dsimp only [eff]; split <;> rfl
theorem g_if_le {x : Int32} {off : Int} : dn P y ((.ifCond .le off, nx, a, b, v, ty, w) :: rs) fin L (.int x :: st) h = if x ≤ 0 then dB P y a L st h else dn P y rs fin L st h := by
  rw [dn_cons]; dsimp only [eff]; split <;> rfl
theorem g_icmp_eq {x z : Int32} {off : Int} : dn P y ((.if_icmp .eq off, nx, a, b, v, ty, w) :: rs) fin L (.int z :: .int x :: st) h = if x = z then dB P y a L st h else dn P y rs fin L st h := by
  rw [dn_cons]; dsimp only [eff]; split <;> rfl
theorem g_icmp_ne {x z : Int32} {off : Int} : dn P y ((.if_icmp .ne off, nx, a, b, v, ty, w) :: rs) fin L (.int z :: .int x :: st) h = if x = z then dn P y rs fin L st h else dB P y a L st h := by
  rw [dn_cons]; dsimp only [eff]; split <;> rfl
theorem g_icmp_lt {x z : Int32} {off : Int} : dn P y ((.if_icmp .lt off, nx, a, b, v, ty, w) :: rs) fin L (.int z :: .int x :: st) h = if x < z then dB P y a L st h else dn P y rs fin L st h := by
  rw [dn_cons]; dsimp only [eff]; split <;> rfl
theorem g_icmp_ge {x z : Int32} {off : Int} : dn P y ((.if_icmp .ge off, nx, a, b, v, ty, w) :: rs) fin L (.int z :: .int x :: st) h = if z ≤ x then dB P y a L st h else dn P y rs fin L st h := by
  rw [dn_cons]; dsimp only [eff]; split <;> rfl
theorem g_icmp_gt {x z : Int32} {off : Int} : dn P y ((.if_icmp .gt off, nx, a, b, v, ty, w) :: rs) fin L (.int z :: .int x :: st) h = if z < x then dB P y a L st h else dn P y rs fin L st h := by
  rw [dn_cons]; dsimp only [eff]; split <;> rfl
theorem g_icmp_le {x z : Int32} {off : Int} : dn P y ((.if_icmp .le off, nx, a, b, v, ty, w) :: rs) fin L (.int z :: .int x :: st) h = if x ≤ z then dB P y a L st h else dn P y rs fin L st h := by
  rw [dn_cons]; dsimp only [eff]; split <;> rfl
theorem g_goto {off : Int} : dn P y ((.goto off, nx, a, b, v, ty, w) :: rs) fin L st h = dB P y a L st h := by rw [dn_cons]; rfl
theorem g_ifnull {off : Int} {x : Nat} : dn P y ((.ifnull off, nx, a, b, v, ty, w) :: rs) fin L (.ref x :: st) h = dn P y rs fin L st h := by rw [dn_cons]; rfl
theorem g_ifnullN {off : Int} : dn P y ((.ifnull off, nx, a, b, v, ty, w) :: rs) fin L (.null :: st) h = dB P y a L st h := by rw [dn_cons]; rfl
theorem g_ifnonnull {off : Int} {x : Nat} : dn P y ((.ifnonnull off, nx, a, b, v, ty, w) :: rs) fin L (.ref x :: st) h = dB P y a L st h := by rw [dn_cons]; rfl
theorem g_ifnonnullN {off : Int} : dn P y ((.ifnonnull off, nx, a, b, v, ty, w) :: rs) fin L (.null :: st) h = dn P y rs fin L st h := by rw [dn_cons]; rfl
theorem g_tsw {d lo hi : Int} {offs : Array Int} {x : Int32} : dn P y ((.tableswitch d lo hi offs, nx, a, b, v, ty, w) :: rs) fin L (.int x :: st) h = dB P y (swT a d lo hi offs x) L st h := by rw [dn_cons]; rfl
theorem g_dup_i {x : Int32} : dn P y ((.dup, nx, a, b, v, ty, w) :: rs) fin L (.int x :: st) h = dn P y rs fin L (.int x :: .int x :: st) h := by rw [dn_cons]; rfl
theorem g_pop_i {x : Int32} : dn P y ((.pop, nx, a, b, v, ty, w) :: rs) fin L (.int x :: st) h = dn P y rs fin L st h := by rw [dn_cons]; rfl
theorem g_dup_r {x : Nat} : dn P y ((.dup, nx, a, b, v, ty, w) :: rs) fin L (.ref x :: st) h = dn P y rs fin L (.ref x :: .ref x :: st) h := by rw [dn_cons]; rfl
theorem g_pop_r {x : Nat} : dn P y ((.pop, nx, a, b, v, ty, w) :: rs) fin L (.ref x :: st) h = dn P y rs fin L st h := by rw [dn_cons]; rfl
theorem g_dup_n  : dn P y ((.dup, nx, a, b, v, ty, w) :: rs) fin L (.null :: st) h = dn P y rs fin L (.null :: .null :: st) h := by rw [dn_cons]; rfl
theorem g_pop_n  : dn P y ((.pop, nx, a, b, v, ty, w) :: rs) fin L (.null :: st) h = dn P y rs fin L st h := by rw [dn_cons]; rfl
theorem g_dup_x1 {x : Int32} {z : Nat} : dn P y ((.dup_x1, nx, a, b, v, ty, w) :: rs) fin L (.int x :: .ref z :: st) h = dn P y rs fin L (.int x :: .ref z :: .int x :: st) h := by rw [dn_cons]; rfl
theorem g_dup2 {x : Int32} {z : Nat} : dn P y ((.dup2, nx, a, b, v, ty, w) :: rs) fin L (.int x :: .ref z :: st) h = dn P y rs fin L (.int x :: .ref z :: .int x :: .ref z :: st) h := by rw [dn_cons]; rfl
theorem g_getfield {ix x : Nat} (hk : h.kd x = some (.inl a)) : dn P y ((.getfield ix, nx, a, b, v, ty, w) :: rs) fin L (.ref x :: st) h = dn P y rs fin L (slotV h x b ty :: st) h := by
  rw [dn_cons]; dsimp only [eff]; rw [if_pos (Or.inl hk)]; rfl
theorem g_getfieldS {ix x : Nat} (hk : h.kd x = some (.inl (a + 1000))) : dn P y ((.getfield ix, nx, a, b, v, ty, w) :: rs) fin L (.ref x :: st) h = dn P y rs fin L (slotV h x b ty :: st) h := by
  rw [dn_cons]; dsimp only [eff]; rw [if_pos (Or.inr hk)]; rfl
theorem g_putfield {ix x : Nat} {z : Value} {h2 : Mm} (hk : h.kd x = some (.inl a)) (hs : setS h x b ty z = some h2) : dn P y ((.putfield ix, nx, a, b, v, ty, w) :: rs) fin L (z :: .ref x :: st) h = dn P y rs fin L st h2 := by
  rw [dn_cons]; dsimp only [eff]; rw [if_pos hk, hs]; rfl
theorem g_put_i {ix x : Nat} {z : Int32} (hk : h.kd x = some (.inl a)) : dn P y ((.putfield ix, nx, a, b, v, .int, w) :: rs) fin L (.int z :: .ref x :: st) h = dn P y rs fin L st (h.si x b z) := g_putfield hk rfl
theorem g_put_l {ix x : Nat} {z : Int64} (hk : h.kd x = some (.inl a)) : dn P y ((.putfield ix, nx, a, b, v, .long, w) :: rs) fin L (.long z :: .ref x :: st) h = dn P y rs fin L st (h.sl x b z) := g_putfield hk rfl
theorem g_put_z {ix x : Nat} {z : Int32} (hk : h.kd x = some (.inl a)) (hz : z = 0 ∨ z = 1) : dn P y ((.putfield ix, nx, a, b, v, .boolean, w) :: rs) fin L (.int z :: .ref x :: st) h = dn P y rs fin L st (h.si x b z) := by
  rcases hz with rfl | rfl <;> exact g_putfield hk rfl
theorem g_put_o {ix x z : Nat} {C : String} (hk : h.kd x = some (.inl a)) : dn P y ((.putfield ix, nx, a, b, v, .object C, w) :: rs) fin L (.ref z :: .ref x :: st) h = dn P y rs fin L st (h.sr x b (some z)) := g_putfield hk rfl
theorem g_put_a {ix x z : Nat} {t : FieldType} (hk : h.kd x = some (.inl a)) : dn P y ((.putfield ix, nx, a, b, v, .array t, w) :: rs) fin L (.ref z :: .ref x :: st) h = dn P y rs fin L st (h.sr x b (some z)) := g_putfield hk rfl
theorem g_iaload {x : Nat} {i : Int32} {z : Int32} (hz : ldI h x i = some z) : dn P y ((.iaload, nx, a, b, v, ty, w) :: rs) fin L (.int i :: .ref x :: st) h = dn P y rs fin L (.int z :: st) h := by
  rw [dn_cons]; dsimp only [eff]; rw [hz]; rfl
theorem g_baload {x : Nat} {i : Int32} {z : Int32} (hz : ldB h x i = some z) : dn P y ((.baload, nx, a, b, v, ty, w) :: rs) fin L (.int i :: .ref x :: st) h = dn P y rs fin L (.int z :: st) h := by
  rw [dn_cons]; dsimp only [eff]; rw [hz]; rfl
theorem g_laload {x : Nat} {i : Int32} {z : Int64} (hz : ldL h x i = some z) : dn P y ((.laload, nx, a, b, v, ty, w) :: rs) fin L (.int i :: .ref x :: st) h = dn P y rs fin L (.long z :: st) h := by
  rw [dn_cons]; dsimp only [eff]; rw [hz]; rfl
theorem g_aaload {x : Nat} {i : Int32} {z : Option Nat} (hz : ldA h x i = some z) : dn P y ((.aaload, nx, a, b, v, ty, w) :: rs) fin L (.int i :: .ref x :: st) h = dn P y rs fin L (va_rf z :: st) h := by
  rw [dn_cons]; dsimp only [eff]; rw [hz]; rfl
theorem g_iastore {x : Nat} {i : Int32} {z : Int32} {h2 : Mm} (hz : stI h x i z = some h2) : dn P y ((.iastore, nx, a, b, v, ty, w) :: rs) fin L (.int z :: .int i :: .ref x :: st) h = dn P y rs fin L st h2 := by
  rw [dn_cons]; dsimp only [eff]; rw [hz]; rfl
theorem g_bastore {x : Nat} {i : Int32} {z : Int32} {h2 : Mm} (hz : stB h x i z = some h2) : dn P y ((.bastore, nx, a, b, v, ty, w) :: rs) fin L (.int z :: .int i :: .ref x :: st) h = dn P y rs fin L st h2 := by
  rw [dn_cons]; dsimp only [eff]; rw [hz]; rfl
theorem g_lastore {x : Nat} {i : Int32} {z : Int64} {h2 : Mm} (hz : stJ h x i z = some h2) : dn P y ((.lastore, nx, a, b, v, ty, w) :: rs) fin L (.long z :: .int i :: .ref x :: st) h = dn P y rs fin L st h2 := by
  rw [dn_cons]; dsimp only [eff]; rw [hz]; rfl
theorem g_aastore {x z : Nat} {i : Int32} {h2 : Mm} (hz : stA h a x i z = some h2) : dn P y ((.aastore, nx, a, b, v, ty, w) :: rs) fin L (.ref z :: .int i :: .ref x :: st) h = dn P y rs fin L st h2 := by
  rw [dn_cons]; dsimp only [eff]; rw [hz]; rfl
theorem g_alen {x n : Nat} (hz : lenA h x = some n) : dn P y ((.arraylength, nx, a, b, v, ty, w) :: rs) fin L (.ref x :: st) h = dn P y rs fin L (.int (Int32.ofNat n) :: st) h := by
  rw [dn_cons]; dsimp only [eff]; rw [hz]; rfl
theorem g_new {ix : Nat} : dn P y ((.new ix, nx, a, b, .null, ty, w) :: rs) fin L st h = dn P y rs fin L (.ref h.sz :: st) (h.nw (some (.inl a)) b) := by rw [dn_cons]; rfl
theorem g_throw {ix : Nat} {z : Int32} (h8 : catS st ≤ 8) : dn P y ((.new ix, nx, a, b, .int z, ty, w) :: rs) fin L st h = some (.inr (exN a), h.thr) := by
  rw [dn_cons]; dsimp only [eff]; rw [if_pos h8]; rfl
theorem g_newarray {t : ArrayType} {n : Int32} (hn : ¬ (n < 0 ∨ 100000 < n.toNatClampNeg)) : dn P y ((.newarray t, nx, a, b, v, ty, w) :: rs) fin L (.int n :: st) h = dn P y rs fin L (.ref h.sz :: st) (h.nw (some (.inr (ty, n.toNatClampNeg))) n.toNatClampNeg) := by
  rw [dn_cons]; dsimp only [eff]; rw [if_neg hn]; rfl
theorem g_anewarray {ix : Nat} {n : Int32} (hn : ¬ (n < 0 ∨ 100000 < n.toNatClampNeg)) : dn P y ((.anewarray ix, nx, a, b, v, ty, w) :: rs) fin L (.int n :: st) h = dn P y rs fin L (.ref h.sz :: st) (h.nw (some (.inr (ty, n.toNatClampNeg))) n.toNatClampNeg) := by
  rw [dn_cons]; dsimp only [eff]; rw [if_neg hn]; rfl
theorem g_ireturn {x : Int32} : dn P y ((.ireturn, nx, a, b, v, ty, w) :: rs) fin L [.int x] h = retX (P.2.1 y) x h := by
  rw [dn_cons]; dsimp only [eff]; unfold retX
  cases P.2.1 y with
  | none => rfl
  | some t => dsimp only; split <;> rfl
theorem g_lreturn {x : Int64} (hr : P.2.1 y = some .long) : dn P y ((.lreturn, nx, a, b, v, ty, w) :: rs) fin L [.long x] h = some (.inl (some (.long x)), h) := by
  rw [dn_cons]; dsimp only [eff]; rw [if_pos hr]; rfl
theorem g_areturn {x : Nat} : dn P y ((.areturn, nx, a, b, v, ty, w) :: rs) fin L [.ref x] h = some (.inl (some (.ref x)), h) := by rw [dn_cons]; rfl
theorem g_return (hr : P.2.1 y = none) : dn P y ((.return_, nx, a, b, v, ty, w) :: rs) fin L [] h = some (.inl none, h) := by
  rw [dn_cons]; dsimp only [eff]; rw [if_pos hr]; rfl
theorem g_callS {ix : Nat} {as r : List Value} (hp : popA b st [] = some (as, r)) (h8 : catS r ≤ 8) : dn P y ((.invokestatic ix, nx, a, b, .null, ty, w) :: rs) fin L st h = aft P y rs fin L r (dM P a as h) := by
  rw [dn_cons]; dsimp only [eff]; rw [hp]; dsimp only; rw [if_pos h8]; rfl
theorem g_callV {ix cc x : Nat} {as r : List Value} (hp : popA b st [] = some (.ref x :: as, r)) (hk : h.kd x = some (.inl cc)) (h8 : catS r ≤ 8) : dn P y ((.invokevirtual ix, nx, a, b, .ref cc, ty, w) :: rs) fin L st h = aft P y rs fin L r (dM P a (.ref x :: as) h) := by
  rw [dn_cons]; dsimp only [eff, recE]; rw [hp]; dsimp only; rw [if_pos ⟨Or.inl hk, h8⟩]; rfl
theorem g_callVS {ix cc x : Nat} {as r : List Value} (hp : popA b st [] = some (.ref x :: as, r)) (hk : h.kd x = some (.inl (cc + 1000))) (h8 : catS r ≤ 8) : dn P y ((.invokevirtual ix, nx, a, b, .ref cc, ty, w) :: rs) fin L st h = aft P y rs fin L r (dM P a (.ref x :: as) h) := by
  rw [dn_cons]; dsimp only [eff, recE]; rw [hp]; dsimp only; rw [if_pos ⟨Or.inr hk, h8⟩]; rfl
theorem g_callI {ix x : Nat} {as r : List Value} (hp : popA b st [] = some (.ref x :: as, r)) (h8 : catS r ≤ 8) : dn P y ((.invokespecial ix, nx, a, b, .null, ty, w) :: rs) fin L st h = aft P y rs fin L r (dM P a (.ref x :: as) h) := by
  rw [dn_cons]; dsimp only [eff, iniE]; rw [hp]; dsimp only; rw [if_pos h8]; rfl
theorem g_callU {ix cc x : Nat} {as r : List Value} (hp : popA b st [] = some (.ref x :: as, r)) (hk : h.kd x = some (.inl cc)) (h8 : catS r ≤ 8) : dn P y ((.invokespecial ix, nx, a, b, .ref cc, ty, w) :: rs) fin L st h = aft P y rs fin L r (dM P a (.ref x :: as) h) := by
  rw [dn_cons]; dsimp only [eff, recE]; rw [hp]; dsimp only; rw [if_pos ⟨Or.inl hk, h8⟩]; rfl
theorem g_obj {ix x : Nat} {z : Int32} (h8 : catS st ≤ 8) : dn P y ((.invokespecial ix, nx, a, b, .int z, ty, w) :: rs) fin L (.ref x :: st) h = dn P y rs fin L st h := by
  rw [dn_cons]; dsimp only [eff]; rw [if_pos h8]; rfl
theorem g_min {ix : Nat} {z x u : Int32} (h8 : catS st ≤ 8) : dn P y ((.invokestatic ix, nx, a, 1, .int u, ty, w) :: rs) fin L (.int z :: .int x :: st) h = dn P y rs fin L (.int (if z < x then z else x) :: st) h := by
  rw [dn_cons]; dsimp only [eff]; rw [if_pos h8]; rfl
theorem g_max {ix : Nat} {z x u : Int32} (h8 : catS st ≤ 8) : dn P y ((.invokestatic ix, nx, a, 2, .int u, ty, w) :: rs) fin L (.int z :: .int x :: st) h = dn P y rs fin L (.int (if x < z then z else x) :: st) h := by
  rw [dn_cons]; dsimp only [eff]; simp only [if_pos h8]; rfl
theorem g_minL {ix : Nat} {z x : Int64} {u : Int32} (h8 : catS st ≤ 8) : dn P y ((.invokestatic ix, nx, a, 3, .int u, ty, w) :: rs) fin L (.long z :: .long x :: st) h = dn P y rs fin L (.long (if z < x then z else x) :: st) h := by
  rw [dn_cons]; dsimp only [eff]; rw [if_pos h8]; rfl
theorem g_cpy {ix p0 p1 : Nat} {n dp sp u : Int32} {h2 : Mm} (h8 : catS st ≤ 8) (hz : aCpy h p0 p1 sp dp n = some h2) : dn P y ((.invokestatic ix, nx, a, 4, .int u, ty, w) :: rs) fin L (.int n :: .int dp :: .ref p1 :: .int sp :: .ref p0 :: st) h = dn P y rs fin L st h2 := by
  rw [dn_cons]; dsimp only [eff]; rw [if_pos h8, hz]; rfl
theorem g_chk {ix : Nat} {n i u : Int32} (h8 : ¬ (i < 0 ∨ n ≤ i ∨ 8 < catS st)) : dn P y ((.invokestatic ix, nx, a, 6, .int u, ty, w) :: rs) fin L (.int n :: .int i :: st) h = dn P y rs fin L st h := by
  rw [dn_cons]; dsimp only [eff]; rw [if_neg h8]; rfl
end GEQ
