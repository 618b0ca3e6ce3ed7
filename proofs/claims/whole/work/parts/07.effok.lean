-- ===== every instruction keeps it =====
theorem okE_S {T : St} {h h' : Mm} {L : Lc} {st : List Value} (h1 : okL h'.sz L) (h2 : okS h'.sz st) (h3 : okM T h' ∧ leM h h') : okE T h (eS L st h') := ⟨h1, h2, h3.1, h3.2⟩
theorem okE_J {T : St} {h h' : Mm} {pc : Nat} {L : Lc} {st : List Value} (h1 : okL h'.sz L) (h2 : okS h'.sz st) (h3 : okM T h' ∧ leM h h') : okE T h (eJ pc L st h') := ⟨h1, h2, h3.1, h3.2⟩
theorem okE_if {T : St} {h : Mm} {c : Prop} [Decidable c] {e1 e2 : Ef} (h1 : okE T h e1) (h2 : okE T h e2) : okE T h (if c then e1 else e2) := by
  split
  · exact h1
  · exact h2
theorem okE_ldI {T : St} {h : Mm} (hM : okM T h) {L : Lc} {r : List Value} (hL : okL h.sz L) (hr : okS h.sz r) {o : Option Int32} : okE T h (match o with
    | some x => eS L (.int x :: r) h
    | none => eX) := by
  cases o with
  | none => trivial
  | some x => exact okE_S hL (okS_c okV_int hr) ⟨hM, leM.rf⟩
theorem okE_ldL {T : St} {h : Mm} (hM : okM T h) {L : Lc} {r : List Value} (hL : okL h.sz L) (hr : okS h.sz r) {o : Option Int64} : okE T h (match o with
    | some x => eS L (.long x :: r) h
    | none => eX) := by
  cases o with
  | none => trivial
  | some x => exact okE_S hL (okS_c okV_long hr) ⟨hM, leM.rf⟩
theorem okE_oS {T : St} {h : Mm} {L : Lc} {r : List Value} (hL : okL h.sz L) (hr : okS h.sz r) {o : Option Mm} (ho : ∀ h', o = some h' → okM T h' ∧ leM h h') : okE T h (oS L r o) := by
  cases o with
  | none => trivial
  | some h' =>
    have q := ho h' rfl
    exact okE_S (hL.mono q.2.1) (hr.mono q.2.1) q
theorem stI_ok {T : St} (hT : stT T) {h h' : Mm} (hM : okM T h) {p : Nat} {i x : Int32} (e : stI h p i x = some h') : okM T h' ∧ leM h h' := by
  unfold stI at e
  split at e
  · rename_i n hk
    obtain ⟨k, -, rfl⟩ := Option.map_eq_some_iff.mp e
    exact hM.si (hM.dyn hT (Or.inr ⟨_, _, (by intro t q; cases q), hk⟩)) (fun n q => by rw [hk] at q; cases q)
  · cases e
theorem i8fit (x : Int32) : fits .byte (.int x.toInt8.toInt32) = true := pk_fb x
theorem stB_ok {T : St} (hT : stT T) {h h' : Mm} (hM : okM T h) {p : Nat} {i x : Int32} (e : stB h p i x = some h') : okM T h' ∧ leM h h' := by
  unfold stB at e
  split at e
  · rename_i n hk
    obtain ⟨k, -, rfl⟩ := Option.map_eq_some_iff.mp e
    exact hM.si (hM.dyn hT (Or.inr ⟨_, _, (by intro t q; cases q), hk⟩)) (fun n q => i8fit x)
  · cases e
theorem stJ_ok {T : St} {h h' : Mm} (hM : okM T h) {p : Nat} {i : Int32} {x : Int64} (e : stJ h p i x = some h') : okM T h' ∧ leM h h' := by
  unfold stJ at e
  split at e
  · obtain ⟨k, -, rfl⟩ := Option.map_eq_some_iff.mp e
    exact hM.sl
  · cases e
theorem stA_ok {T : St} (hT : stT T) {h h' : Mm} (hM : okM T h) {c p : Nat} {i : Int32} {x : Nat} (hx : x < h.sz) (e : stA h c p i x = some h') : okM T h' ∧ leM h h' := by
  unfold stA at e
  split at e
  · rename_i C n hk
    split at e
    · obtain ⟨k, -, rfl⟩ := Option.map_eq_some_iff.mp e
      exact hM.sr (hM.dyn hT (Or.inr ⟨_, _, (by intro t q; cases q), hk⟩)) (fun j q => by cases q; exact hx)
    · cases e
  · cases e
theorem ldA_ok {T : St} {h : Mm} (hM : okM T h) {p : Nat} {i : Int32} {x : Option Nat} (e : ldA h p i = some x) : ∀ j, x = some j → j < h.sz := by
  unfold ldA at e
  split at e
  · obtain ⟨k, -, rfl⟩ := Option.map_eq_some_iff.mp e
    exact fun j q => hM.2.2.2.1 _ _ _ q
  · obtain ⟨k, -, rfl⟩ := Option.map_eq_some_iff.mp e
    exact fun j q => hM.2.2.2.1 _ _ _ q
  · cases e
def stB8 (T : St) : Prop := ∀ i n, i < nS → T.1 i = some (.inr (.array .byte, n)) → ∀ k, fits .byte (.int (T.2.1 i k)) = true
theorem recE_ok {T : St} {h : Mm} {v : Value} {b a : Nat} {L : Lc} {st : List Value} (hL : okL h.sz L) (hS : okS h.sz st) : okE T h (recE v (popA b st []) a L h) := by
  unfold recE
  split
  · rename_i e
    refine okE_if ?_ trivial
    have z := popA_ok e hS okS_nil
    exact ⟨rfl, z.1, hL, z.2⟩
  · trivial
theorem iniE_ok {T : St} {h : Mm} {b a : Nat} {L : Lc} {st : List Value} (hL : okL h.sz L) (hS : okS h.sz st) : okE T h (iniE (popA b st []) a L h) := by
  unfold iniE
  split
  · rename_i e
    refine okE_if ?_ trivial
    have z := popA_ok e hS okS_nil
    exact ⟨rfl, z.1, hL, z.2⟩
  · trivial
set_option maxHeartbeats 4000000 in
theorem eff_ok {T : St} (hT : stT T) (hTb : stB8 T) {rt : Option FieldType} {r : Rw} (ha : annV r) {L : Lc} {st : List Value} {h : Mm} (hM : okM T h) (hL : okL h.sz L) (hS : okS h.sz st) : okE T h (eff rt r L st h) := by
  obtain ⟨ins, nx, a, b, v, ty, w⟩ := r
  obtain ⟨hv, hput, hnew, hna, haa⟩ := ha
  have hv2 : okV h.sz v := okV.mono hv hM.1
  have hself : okM T h ∧ leM h h := ⟨hM, leM.rf⟩
  cases ins
  all_goals try exact trivial
  case iconst | bipush | sipush | lconst | ldc | ldc_w | ldc2_w | getstatic => exact okE_S hL (okS_c hv2 hS) hself
  case aconst_null => exact okE_S hL (okS_c okV_null hS) hself
  case iload | iload_n | lload | lload_n | aload | aload_n =>
    dsimp only [eff]
    split
    all_goals try exact trivial
    all_goals (rename_i e; exact okE_S hL (okS_c (getL_ok hL e) hS) hself)
  case istore | istore_n | astore | astore_n =>
    dsimp only [eff]
    split
    all_goals try exact trivial
    all_goals exact okE_S (setL_ok (okS_h hS) hL) (okS_t hS) hself
  case lstore | lstore_n =>
    dsimp only [eff]
    split
    all_goals try exact trivial
    all_goals exact okE_S (nonL_ok (setL_ok (okS_h hS) hL)) (okS_t hS) hself
  case iinc =>
    dsimp only [eff]
    split
    all_goals try exact trivial
    exact okE_S (setL_ok okV_int hL) hS hself
  case iadd | isub | imul | iand | ior | ixor | ishl | ishr | iushr | ladd | lsub | lmul | land | lshr | lcmp =>
    dsimp only [eff]
    split
    all_goals try exact trivial
    all_goals first | exact okE_S hL (okS_c okV_int (okS_t (okS_t hS))) hself | exact okE_S hL (okS_c okV_long (okS_t (okS_t hS))) hself
  case idiv | irem | ldiv =>
    dsimp only [eff]
    split
    all_goals try exact trivial
    all_goals (refine okE_if trivial ?_; first | exact okE_S hL (okS_c okV_int (okS_t (okS_t hS))) hself | exact okE_S hL (okS_c okV_long (okS_t (okS_t hS))) hself)
  case ineg | i2l | l2i | i2b | i2c =>
    dsimp only [eff]
    split
    all_goals try exact trivial
    all_goals first | exact okE_S hL (okS_c okV_int (okS_t hS)) hself | exact okE_S hL (okS_c okV_long (okS_t hS)) hself
  case dup | pop =>
    dsimp only [eff]
    split
    all_goals try exact trivial
    all_goals (refine okE_if ?_ trivial; first | exact okE_S hL (okS_c (okS_h hS) hS) hself | exact okE_S hL (okS_t hS) hself)
  case dup_x1 | dup2 =>
    dsimp only [eff]
    split
    all_goals try exact trivial
    all_goals (refine okE_if ?_ trivial; first | exact okE_S hL (okS_c (okS_h hS) (okS_c (okS_h (okS_t hS)) hS)) hself | exact okE_S hL (okS_c (okS_h hS) (okS_c (okS_h (okS_t hS)) (okS_c (okS_h hS) (okS_t (okS_t hS))))) hself)
  case goto => exact okE_J hL hS hself
  case ifCond c off =>
    dsimp only [eff]
    split
    all_goals try exact trivial
    cases c <;> (refine okE_if ?_ ?_ <;> first | exact okE_J hL (okS_t hS) hself | exact okE_S hL (okS_t hS) hself)
  case if_icmp c off =>
    dsimp only [eff]
    split
    all_goals try exact trivial
    cases c <;> (refine okE_if ?_ ?_ <;> first | exact okE_J hL (okS_t (okS_t hS)) hself | exact okE_S hL (okS_t (okS_t hS)) hself)
  case ifnull | ifnonnull | tableswitch =>
    dsimp only [eff]
    split
    all_goals try exact trivial
    all_goals first | exact okE_J hL (okS_t hS) hself | exact okE_S hL (okS_t hS) hself
  case getfield =>
    dsimp only [eff]
    split
    all_goals try exact trivial
    exact okE_if (okE_S hL (okS_c (slotV_ok hM) (okS_t hS)) hself) trivial
  case putfield q =>
    dsimp only [eff]
    split
    all_goals try exact trivial
    split
    · rename_i hk
      exact okE_oS hL (okS_t (okS_t hS)) (fun h' e => hM.set hT (hput q rfl) hk (okS_h hS) e)
    · trivial
  case iaload | baload =>
    dsimp only [eff]
    split
    all_goals try exact trivial
    exact okE_ldI hM hL (okS_t (okS_t hS))
  case laload =>
    dsimp only [eff]
    split
    all_goals try exact trivial
    exact okE_ldL hM hL (okS_t (okS_t hS))
  case aaload =>
    dsimp only [eff]
    split
    all_goals try exact trivial
    split
    · rename_i x e
      exact okE_S hL (okS_c (va_rf_ok (ldA_ok hM e)) (okS_t (okS_t hS))) hself
    · trivial
  case iastore =>
    dsimp only [eff]
    split
    all_goals try exact trivial
    exact okE_oS hL (okS_t (okS_t (okS_t hS))) (fun h' e => stI_ok hT hM e)
  case bastore =>
    dsimp only [eff]
    split
    all_goals try exact trivial
    exact okE_oS hL (okS_t (okS_t (okS_t hS))) (fun h' e => stB_ok hT hM e)
  case lastore =>
    dsimp only [eff]
    split
    all_goals try exact trivial
    exact okE_oS hL (okS_t (okS_t (okS_t hS))) (fun h' e => stJ_ok hM e)
  case aastore =>
    dsimp only [eff]
    split
    all_goals try exact trivial
    exact okE_oS hL (okS_t (okS_t (okS_t hS))) (fun h' e => stA_ok hT hM (okS_h hS _ rfl) e)
  case arraylength =>
    dsimp only [eff]
    split
    all_goals try exact trivial
    split
    · exact okE_S hL (okS_c okV_int (okS_t hS)) hself
    · trivial
  case new q =>
    dsimp only [eff]
    split
    · have z := hM.nw (x := .inl a) (n := b) ⟨fun c e => by cases e; exact hnew q rfl, fun t m e => nomatch e⟩
      exact okE_S (hL.mono z.2.1) (okS_c (okV_ref (Nat.lt_succ_self _)) (hS.mono z.2.1)) z
    · exact okE_if ⟨⟨fun v e => (nomatch e), fun E e => by cases e; exact exN_lt a⟩, hM.thr.1, hM.thr.2⟩ trivial
  case newarray q =>
    dsimp only [eff]
    split
    all_goals try exact trivial
    refine okE_if trivial ?_
    have z := hM.nw (x := .inr (ty, (‹Int32›).toNatClampNeg)) (n := (‹Int32›).toNatClampNeg) ⟨fun c e => (nomatch e), fun t m e => by injection e with e; injection e with e1 e2; exact e1 ▸ hna q rfl⟩
    exact okE_S (hL.mono z.2.1) (okS_c (okV_ref (Nat.lt_succ_self _)) ((okS_t hS).mono z.2.1)) z
  case anewarray q =>
    dsimp only [eff]
    split
    all_goals try exact trivial
    refine okE_if trivial ?_
    have z := hM.nw (x := .inr (ty, (‹Int32›).toNatClampNeg)) (n := (‹Int32›).toNatClampNeg) ⟨fun c e => (nomatch e), fun t m e => by injection e with e; injection e with e1 e2; exact e1 ▸ haa q rfl⟩
    exact okE_S (hL.mono z.2.1) (okS_c (okV_ref (Nat.lt_succ_self _)) ((okS_t hS).mono z.2.1)) z
  case invokevirtual => exact recE_ok hL hS
  case invokespecial =>
    dsimp only [eff]
    split
    · exact iniE_ok hL hS
    · exact recE_ok hL hS
    · split
      · exact okE_if (okE_S hL (okS_t hS) hself) trivial
      · trivial
  case invokestatic =>
    dsimp only [eff]
    split
    · split
      · rename_i as r e
        have z := popA_ok e hS okS_nil
        exact okE_if ⟨rfl, z.1, hL, z.2⟩ trivial
      · trivial
    · split
      · split
        · exact okE_if (okE_S hL (okS_c okV_int (okS_t (okS_t hS))) hself) trivial
        · trivial
      · split
        · exact okE_if (okE_S hL (okS_c okV_int (okS_t (okS_t hS))) hself) trivial
        · trivial
      · split
        · exact okE_if (okE_S hL (okS_c okV_long (okS_t (okS_t hS))) hself) trivial
        · trivial
      · split
        · exact okE_if (okE_oS hL (okS_t (okS_t (okS_t (okS_t (okS_t hS))))) (fun h' e => hM.cpy hT hTb e)) trivial
        · trivial
      · split
        · exact okE_if trivial (okE_S hL (okS_t (okS_t hS)) hself)
        · trivial
      · trivial
  case ireturn =>
    dsimp only [eff]
    split
    · split
      · split
        · exact ⟨⟨fun v e => by cases e; exact okV_int, fun E e => (nomatch e)⟩, hM, leM.rf⟩
        · trivial
      · trivial
    · trivial
  case lreturn =>
    dsimp only [eff]
    split
    · split
      · exact ⟨⟨fun v e => by cases e; exact okV_long, fun E e => (nomatch e)⟩, hM, leM.rf⟩
      · trivial
    · trivial
  case areturn =>
    dsimp only [eff]
    split
    · exact ⟨⟨fun v e => by cases e; exact okS_h hS, fun E e => (nomatch e)⟩, hM, leM.rf⟩
    · trivial
  case return_ =>
    dsimp only [eff]
    split
    · split
      · exact ⟨⟨fun v e => (nomatch e), fun E e => (nomatch e)⟩, hM, leM.rf⟩
      · trivial
    · trivial
-- ===== a run keeps it =====
def annP (P : Pg) : Prop := ∀ y pc, ∀ r ∈ (P.1 y pc).1, annV r
theorem entL_ok {n : Nat} : ∀ {as : List Value}, okS n as → okL n (entL as) := by
  intro as
  induction as with
  | nil => intro _; exact okL_nil
  | cons v t ih =>
    intro h
    have ht := ih (okS_t h)
    have hh := okL_some (okS_h h)
    cases v <;> first | exact okL_c hh ht | exact okL_c hh (okL_c okL_none ht)
theorem run_ok {T : St} (hT : stT T) (hTb : stB8 T) {P : Pg} (hP : annP P) : ∀ {n y : Nat} {rs : List Rw} {fin : Nat} {L : Lc} {st : List Value} {h : Mm} {o : Out} {h' : Mm}, (∀ r ∈ rs, annV r) → okM T h → okL h.sz L → okS h.sz st → run P n y rs fin L st h = some (o, h') → okO h'.sz o ∧ okM T h' ∧ leM h h' := by
  intro n
  induction n with
  | zero => intro y rs fin L st h o h' _ _ _ _ e; cases e
  | succ n ih =>
    intro y rs fin L st h o h' ha hM hL hS e
    cases rs with
    | nil => exact ih (hP y fin) hM hL hS e
    | cons r rs =>
      have hr := eff_ok hT hTb (rt := P.2.1 y) (ha r List.mem_cons_self) hM hL hS
      have ha' : ∀ r ∈ rs, annV r := fun r hr => ha r (List.mem_cons_of_mem _ hr)
      have e1 : bindE (eff (P.2.1 y) r L st h) (fun L st h => run P n y rs fin L st h) (fun pc L st h => run P n y (P.1 y pc).1 (P.1 y pc).2 L st h) (fun z as h => if catS as ≤ P.2.2.2 z then run P n z (P.1 z 0).1 (P.1 z 0).2 (entL as) [] h else none) (P.2.2.1 y) = some (o, h') := e
      generalize eff (P.2.1 y) r L st h = ef at hr e1
      rcases ef with (_ | ⟨o1, h1⟩) | ⟨L1, st1, h1⟩ | ⟨pc, L1, st1, h1⟩ | ⟨z, as, L1, st1, h1⟩
      · cases e1
      · cases e1; exact hr
      · obtain ⟨q1, q2, q3, q4⟩ := hr
        obtain ⟨z1, z2, z3⟩ := ih ha' q3 q1 q2 e1
        exact ⟨z1, z2, q4.tr z3⟩
      · obtain ⟨q1, q2, q3, q4⟩ := hr
        obtain ⟨z1, z2, z3⟩ := ih (hP y pc) q3 q1 q2 e1
        exact ⟨z1, z2, q4.tr z3⟩
      · obtain ⟨rfl, q1, q2, q3⟩ := hr
        simp only [bindE] at e1
        have hcm : catS as ≤ P.2.2.2 z := by
          rcases Nat.lt_or_ge (P.2.2.2 z) (catS as) with hcm | hcm
          · rw [if_neg (Nat.not_le.mpr hcm)] at e1; cases e1
          · exact hcm
        rw [if_pos hcm] at e1
        cases hc : run P n z (P.1 z 0).1 (P.1 z 0).2 (entL as) [] h1 with
        | none => rw [hc] at e1; cases e1
        | some q =>
          rw [hc] at e1
          obtain ⟨o2, h2⟩ := q
          obtain ⟨c1, c2, c3⟩ := ih (hP z 0) hM (entL_ok q1) okS_nil hc
          rcases o2 with (_ | v) | E
          · obtain ⟨z1, z2, z3⟩ := ih ha' c2 (q2.mono c3.1) (q3.mono c3.1) e1
            exact ⟨z1, z2, c3.tr z3⟩
          · obtain ⟨z1, z2, z3⟩ := ih ha' c2 (q2.mono c3.1) (okS_c (c1.1 v rfl) (q3.mono c3.1)) e1
            exact ⟨z1, z2, c3.tr z3⟩
          · cases hh : P.2.2.1 y E with
            | none =>
              simp only [hh] at e1
              cases e1
              exact ⟨⟨fun v e => (nomatch e), fun E' e => by cases e; exact c1.2 E rfl⟩, c2, c3⟩
            | some q2' =>
              simp only [hh] at e1
              obtain ⟨z1, z2, z3⟩ := ih (hP y q2'.1) c2 (catL_ok (q2.mono c3.1)) okS_nil e1
              exact ⟨z1, z2, c3.tr z3⟩
