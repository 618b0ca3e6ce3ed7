-- ===== what holds of every memory: references are in range, constants are kept, bytes are bytes; T: the constants' kinds, ints, references; nS: their number =====
abbrev St : Type := (Nat → Kd) × (Nat → Nat → Int32) × (Nat → Nat → Option Nat)
def nS : Nat := 200
def stT (T : St) : Prop := ∀ i, i < nS → (∀ c, T.1 i = some (.inl c) → 1000 ≤ c) ∧ (∀ ty n, T.1 i = some (.inr (ty, n)) → ∃ t, ty = .array t) ∧ ∀ k j, T.2.2 i k = some j → j < nS
def okV (n : Nat) (v : Value) : Prop := ∀ i, v = .ref i → i < n
def okS (n : Nat) (st : List Value) : Prop := ∀ v ∈ st, okV n v
def okL (n : Nat) (L : Lc) : Prop := ∀ v, some v ∈ L → okV n v
def arrT (ty : FieldType) : Prop := ty = .int ∨ ty = .byte ∨ ty = .long ∨ ty = .object "FishGrader$State"
theorem arrT_no {t : FieldType} (h : arrT (.array t)) : False := by
  rcases h with z | z | z | z <;> cases z
def okM (T : St) (h : Mm) : Prop := nS ≤ h.sz ∧ (∀ i, h.sz ≤ i → h.kd i = none) ∧ (∀ i, i < nS → h.kd i = T.1 i ∧ h.mi i = T.2.1 i ∧ h.mr i = T.2.2 i) ∧ (∀ i k j, h.mr i k = some j → j < h.sz) ∧ (∀ i n, h.kd i = some (.inr (.byte, n)) → ∀ k, fits .byte (.int (h.mi i k)) = true) ∧ ∀ i, nS ≤ i → (∀ c, h.kd i = some (.inl c) → c < 1000) ∧ ∀ ty n, h.kd i = some (.inr (ty, n)) → arrT ty
def leM (h h' : Mm) : Prop := h.sz ≤ h'.sz ∧ h.nc ≤ h'.nc ∧ h.ns ≤ h'.ns ∧ ∀ i, i < h.sz → h'.kd i = h.kd i
def okO (n : Nat) (o : Out) : Prop := (∀ v, o = .inl (some v) → okV n v) ∧ ∀ E, o = .inr E → ∃ a, a < 4 ∧ E = exN a
theorem exN_lt (a : Nat) : ∃ b, b < 4 ∧ exN a = exN b := by
  match a with
  | 0 => exact ⟨0, by decide, rfl⟩
  | 1 => exact ⟨1, by decide, rfl⟩
  | 2 => exact ⟨2, by decide, rfl⟩
  | a + 3 => exact ⟨3, by decide, rfl⟩
def okE (T : St) (h : Mm) (e : Ef) : Prop := match e with
  | .inl none => True
  | .inl (some (o, h')) => okO h'.sz o ∧ okM T h' ∧ leM h h'
  | .inr (.inl (L, st, h')) => okL h'.sz L ∧ okS h'.sz st ∧ okM T h' ∧ leM h h'
  | .inr (.inr (.inl (_, L, st, h'))) => okL h'.sz L ∧ okS h'.sz st ∧ okM T h' ∧ leM h h'
  | .inr (.inr (.inr (_, as, L, st, h'))) => h' = h ∧ okS h.sz as ∧ okL h.sz L ∧ okS h.sz st
def annV (r : Rw) : Prop := okV nS r.2.2.2.2.1 ∧ (∀ q, r.1 = .putfield q → r.2.2.1 < 1000) ∧ (∀ q, r.1 = .new q → r.2.2.1 < 1000) ∧ (∀ q, r.1 = .newarray q → arrT r.2.2.2.2.2.1) ∧ ∀ q, r.1 = .anewarray q → arrT r.2.2.2.2.2.1
theorem leM.rf {h : Mm} : leM h h := ⟨Nat.le_refl _, Nat.le_refl _, Nat.le_refl _, fun _ _ => rfl⟩
theorem leM.tr {a b c : Mm} (h1 : leM a b) (h2 : leM b c) : leM a c := ⟨Nat.le_trans h1.1 h2.1, Nat.le_trans h1.2.1 h2.2.1, Nat.le_trans h1.2.2.1 h2.2.2.1, fun i hi => (h2.2.2.2 i (Nat.lt_of_lt_of_le hi h1.1)).trans (h1.2.2.2 i hi)⟩
theorem okV.mono {n m : Nat} {v : Value} (h : okV n v) (hm : n ≤ m) : okV m v := fun i e => Nat.lt_of_lt_of_le (h i e) hm
theorem okS.mono {n m : Nat} {st : List Value} (h : okS n st) (hm : n ≤ m) : okS m st := fun v hv => (h v hv).mono hm
theorem okL.mono {n m : Nat} {L : Lc} (h : okL n L) (hm : n ≤ m) : okL m L := fun v hv => (h v hv).mono hm
theorem okV_int {n : Nat} {x : Int32} : okV n (.int x) := fun _ e => nomatch e
theorem okV_long {n : Nat} {x : Int64} : okV n (.long x) := fun _ e => nomatch e
theorem okV_null {n : Nat} : okV n .null := fun _ e => nomatch e
theorem okV_ref {n p : Nat} (h : p < n) : okV n (.ref p) := fun i e => by cases e; exact h
theorem okS_nil {n : Nat} : okS n [] := fun _ h => nomatch h
theorem okS_c {n : Nat} {v : Value} {st : List Value} (h : okV n v) (h2 : okS n st) : okS n (v :: st) := fun w hw => (List.mem_cons.mp hw).elim (fun e => e ▸ h) (h2 w)
theorem okS_t {n : Nat} {v : Value} {st : List Value} (h : okS n (v :: st)) : okS n st := fun w hw => h w (List.mem_cons_of_mem _ hw)
theorem okS_h {n : Nat} {v : Value} {st : List Value} (h : okS n (v :: st)) : okV n v := h v List.mem_cons_self
theorem killL_ok {n : Nat} {x : Option Value} (h : ∀ v, some v = x → okV n v) : ∀ v, some v = killL x → okV n v := by
  intro v hv
  unfold killL at hv
  split at hv
  · cases hv
  · cases hv
  · exact h v hv
theorem okL_c {n : Nat} {x : Option Value} {L : Lc} (h : ∀ v, some v = x → okV n v) (h2 : okL n L) : okL n (x :: L) := fun w hw => (List.mem_cons.mp hw).elim (h w) (h2 w)
theorem okL_t {n : Nat} {x : Option Value} {L : Lc} (h : okL n (x :: L)) : okL n L := fun w hw => h w (List.mem_cons_of_mem _ hw)
theorem okL_h {n : Nat} {x : Option Value} {L : Lc} (h : okL n (x :: L)) : ∀ v, some v = x → okV n v := fun v hv => h v (hv ▸ List.mem_cons_self)
theorem okL_nil {n : Nat} : okL n [] := fun _ h => nomatch h
theorem okL_none {n : Nat} : ∀ v, some v = (none : Option Value) → okV n v := fun _ h => nomatch h
theorem okL_some {n : Nat} {w : Value} (h : okV n w) : ∀ v, some v = some w → okV n v := fun v e => by cases e; exact h
theorem setL_ok {n : Nat} {w : Value} (hw : okV n w) : ∀ {L : Lc} {i : Nat}, okL n L → okL n (setL L i w) := by
  intro L
  induction L with
  | nil =>
    intro i
    induction i with
    | zero => intro _; exact okL_c (okL_some hw) okL_nil
    | succ i ih => intro h; exact okL_c okL_none (ih h)
  | cons x t ih =>
    intro i h
    match i with
    | 0 => exact okL_c (okL_some hw) (okL_t h)
    | 1 => exact okL_c (killL_ok (okL_h h)) (ih (okL_t h))
    | i + 2 => exact okL_c (okL_h h) (ih (okL_t h))
theorem nonL_ok {n : Nat} : ∀ {L : Lc} {i : Nat}, okL n L → okL n (nonL L i) := by
  intro L
  induction L with
  | nil => intro i h; exact h
  | cons x t ih =>
    intro i h
    match i with
    | 0 => exact okL_c okL_none (okL_t h)
    | i + 1 => exact okL_c (okL_h h) (ih (okL_t h))
theorem catL_ok {n : Nat} : ∀ {L : Lc} {i : Nat}, okL n L → okL n (catL L i) := by
  intro L
  induction L with
  | nil => intro i h; exact h
  | cons x t ih =>
    intro i h
    match i with
    | 0 => exact okL_c okL_none (okL_t h)
    | 1 => exact okL_c (killL_ok (okL_h h)) (ih (okL_t h))
    | i + 2 => exact okL_c (okL_h h) (ih (okL_t h))
theorem getL_ok {n : Nat} {v : Value} : ∀ {L : Lc} {i : Nat}, okL n L → getL L i = some v → okV n v := by
  intro L
  induction L with
  | nil => intro i h e; cases e
  | cons x t ih =>
    intro i h e
    match i with
    | 0 => exact okL_h h v e.symm
    | i + 1 => exact ih (okL_t h) e
theorem popA_ok {n : Nat} : ∀ {b : Nat} {st acc as r : List Value}, popA b st acc = some (as, r) → okS n st → okS n acc → okS n as ∧ okS n r := by
  intro b
  induction b with
  | zero => intro st acc as r e h1 h2; cases e; exact ⟨h2, h1⟩
  | succ b ih =>
    intro st acc as r e h1 h2
    cases st with
    | nil => cases e
    | cons v st => exact ih e (okS_t h1) (okS_c (okS_h h1) h2)
theorem va_rf_ok {n : Nat} {x : Option Nat} (h : ∀ j, x = some j → j < n) : okV n (va_rf x) := by
  cases x with
  | none => exact okV_null
  | some j => exact okV_ref (h j rfl)
theorem slotV_ok {T : St} {h : Mm} (hM : okM T h) {a k : Nat} {ty : FieldType} : okV h.sz (slotV h a k ty) := by
  unfold slotV
  split
  · exact okV_long
  · exact va_rf_ok (fun j e => hM.2.2.2.1 a k j e)
  · exact va_rf_ok (fun j e => hM.2.2.2.1 a k j e)
  · exact okV_int
-- ===== writes =====
/-- a cell whose kind isn't a constant's is no constant -/
theorem okM.dyn {T : St} (hT : stT T) {h : Mm} (hM : okM T h) {p : Nat} (hk : (∃ c, c < 1000 ∧ h.kd p = some (.inl c)) ∨ ∃ ty n, (∀ t, ty ≠ .array t) ∧ h.kd p = some (.inr (ty, n))) : ¬ p < nS := by
  intro hp
  obtain ⟨t1, t2, -⟩ := hT p hp
  have e := (hM.2.2.1 p hp).1
  rcases hk with ⟨c, hc, hk⟩ | ⟨ty, n, hty, hk⟩
  · exact absurd (t1 c (e ▸ hk)) (Nat.not_le.mpr hc)
  · obtain ⟨t, ht⟩ := t2 ty n (e ▸ hk)
    exact hty t ht
theorem okM.lt {T : St} {h : Mm} (hM : okM T h) {p : Nat} {x : Nat ⊕ (FieldType × Nat)} (hk : h.kd p = some x) : p < h.sz := by
  rcases Nat.lt_or_ge p h.sz with q | q
  · exact q
  · rw [hM.2.1 p q] at hk; cases hk
theorem okM.si {T : St} {h : Mm} (hM : okM T h) {p k : Nat} {x : Int32} (hp : ¬ p < nS) (hb : ∀ n, h.kd p = some (.inr (.byte, n)) → fits .byte (.int x) = true) : okM T (h.si p k x) ∧ leM h (h.si p k x) := by
  obtain ⟨h1, h2, h3, h4, h5, h6⟩ := hM
  refine ⟨⟨h1, h2, fun i hi => ⟨(h3 i hi).1, ?_, (h3 i hi).2.2⟩, h4, fun i n e j => ?_, h6⟩, leM.rf⟩
  · show zu2 h.mi p k x i = _
    rw [zu2, if_neg (fun (e : i = p) => hp (e ▸ hi))]
    exact (h3 i hi).2.1
  · show fits .byte (.int (zu2 h.mi p k x i j)) = true
    rw [zu2]
    by_cases e2 : i = p
    · rw [if_pos e2, zu]
      by_cases e3 : j = k
      · rw [if_pos e3]; exact hb n (e2 ▸ e)
      · rw [if_neg e3]; exact h5 p n (e2 ▸ e) j
    · rw [if_neg e2]; exact h5 i n e j
theorem okM.sw {T : St} {h : Mm} (hM : okM T h) {p : Nat} {f : Nat → Int32} (hp : ¬ p < nS) (hb : ∀ n, h.kd p = some (.inr (.byte, n)) → ∀ k, fits .byte (.int (f k)) = true) : okM T (h.sw p f) ∧ leM h (h.sw p f) := by
  obtain ⟨h1, h2, h3, h4, h5, h6⟩ := hM
  refine ⟨⟨h1, h2, fun i hi => ⟨(h3 i hi).1, ?_, (h3 i hi).2.2⟩, h4, fun i n e j => ?_, h6⟩, leM.rf⟩
  · show zu h.mi p f i = _
    rw [zu, if_neg (fun (e : i = p) => hp (e ▸ hi))]
    exact (h3 i hi).2.1
  · show fits .byte (.int (zu h.mi p f i j)) = true
    rw [zu]
    by_cases e2 : i = p
    · rw [if_pos e2]; exact hb n (e2 ▸ e) j
    · rw [if_neg e2]; exact h5 i n e j
theorem okM.sl {T : St} {h : Mm} (hM : okM T h) {p k : Nat} {x : Int64} : okM T (h.sl p k x) ∧ leM h (h.sl p k x) := ⟨hM, leM.rf⟩
theorem okM.sr {T : St} {h : Mm} (hM : okM T h) {p k : Nat} {x : Option Nat} (hp : ¬ p < nS) (hx : ∀ j, x = some j → j < h.sz) : okM T (h.sr p k x) ∧ leM h (h.sr p k x) := by
  obtain ⟨h1, h2, h3, h4, h5, h6⟩ := hM
  refine ⟨⟨h1, h2, fun i hi => ⟨(h3 i hi).1, (h3 i hi).2.1, ?_⟩, fun i j q e => ?_, h5, h6⟩, leM.rf⟩
  · show zu2 h.mr p k x i = _
    rw [zu2, if_neg (fun (e : i = p) => hp (e ▸ hi))]
    exact (h3 i hi).2.2
  · have e : zu2 h.mr p k x i j = some q := e
    rw [zu2] at e
    by_cases e2 : i = p
    · rw [if_pos e2, zu] at e
      by_cases e3 : j = k
      · rw [if_pos e3] at e; exact hx q e
      · rw [if_neg e3] at e; exact h4 _ _ _ e
    · rw [if_neg e2] at e; exact h4 _ _ _ e
theorem okM.nw {T : St} {h : Mm} (hM : okM T h) {x : Nat ⊕ (FieldType × Nat)} {n : Nat} (hx : (∀ c, x = .inl c → c < 1000) ∧ ∀ t m, x = .inr (t, m) → arrT t) : okM T (h.nw (some x) n) ∧ leM h (h.nw (some x) n) := by
  obtain ⟨h1, h2, h3, h4, h5, h6⟩ := hM
  have hs : (h.nw (some x) n).sz = h.sz + 1 := rfl
  have hn : ∀ i, i < h.sz → ¬ i = h.sz := fun i hi e => by omega
  refine ⟨⟨by rw [hs]; omega, fun i hi => ?_, fun i hi => ?_, fun i k j e => ?_, fun i m e k => ?_, fun i hi => ?_⟩, by rw [hs]; omega, Nat.le_succ _, Nat.le_add_right _ _, fun i hi => ?_⟩
  · rw [hs] at hi
    show zu h.kd h.sz (some x) i = none
    rw [zu, if_neg (by omega)]
    exact h2 i (by omega)
  · have hl : i < h.sz := Nat.lt_of_lt_of_le hi h1
    refine ⟨?_, ?_, ?_⟩
    · show zu h.kd h.sz (some x) i = _
      rw [zu, if_neg (hn i hl)]; exact (h3 i hi).1
    · show zu h.mi h.sz _ i = _
      rw [zu, if_neg (hn i hl)]; exact (h3 i hi).2.1
    · show zu h.mr h.sz _ i = _
      rw [zu, if_neg (hn i hl)]; exact (h3 i hi).2.2
  · have e : zu h.mr h.sz (fun _ => none) i k = some j := e
    rw [zu] at e
    rw [hs]
    by_cases e2 : i = h.sz
    · rw [if_pos e2] at e; cases e
    · rw [if_neg e2] at e
      have := h4 _ _ _ e
      omega
  · have e : zu h.kd h.sz (some x) i = some (.inr (.byte, m)) := e
    show fits .byte (.int (zu h.mi h.sz (fun _ => 0) i k)) = true
    rw [zu] at e ⊢
    by_cases e2 : i = h.sz
    · rw [if_pos e2]; decide
    · rw [if_neg e2] at e ⊢; exact h5 _ _ e k
  · show (∀ c, zu h.kd h.sz (some x) i = some (.inl c) → c < 1000) ∧ ∀ t n, zu h.kd h.sz (some x) i = some (.inr (t, n)) → arrT t
    rw [zu]
    by_cases e2 : i = h.sz
    · rw [if_pos e2]; exact ⟨fun c q => hx.1 c (Option.some.inj q), fun t n q => hx.2 t n (Option.some.inj q)⟩
    · rw [if_neg e2]; exact h6 i hi
  · show zu h.kd h.sz (some x) i = _
    rw [zu, if_neg (hn i hi)]
theorem okM.thr {T : St} {h : Mm} (hM : okM T h) : okM T h.thr ∧ leM h h.thr := ⟨hM, Nat.le_refl _, Nat.le_succ _, Nat.le_add_right _ _, fun _ _ => rfl⟩
theorem okM.set {T : St} (hT : stT T) {h h' : Mm} (hM : okM T h) {p a b : Nat} {ty : FieldType} {x : Value} (ha : a < 1000) (hk : h.kd p = some (.inl a)) (hx : okV h.sz x) (e : setS h p b ty x = some h') : okM T h' ∧ leM h h' := by
  have hp := hM.dyn hT (Or.inl ⟨a, ha, hk⟩)
  have hb : ∀ (x : Int32) n, h.kd p = some (.inr (.byte, n)) → fits .byte (.int x) = true := fun x n e => by rw [hk] at e; cases e
  unfold setS at e
  split at e
  · split at e
    · cases e; exact hM.sl
    · cases e
  · split at e
    · cases e; exact hM.sr hp (fun j q => by cases q; exact hx _ rfl)
    · cases e; exact hM.sr hp (fun j q => nomatch q)
    · cases e
  · split at e
    · cases e; exact hM.sr hp (fun j q => by cases q; exact hx _ rfl)
    · cases e; exact hM.sr hp (fun j q => nomatch q)
    · cases e
  · cases e
  · cases e
  · split at e
    · split at e
      · cases e; exact hM.si hp (hb _)
      · cases e
    · cases e
theorem okM.cpy {T : St} (hT : stT T) {h h' : Mm} (hM : okM T h) (hTb : ∀ i n, i < nS → T.1 i = some (.inr (.array .byte, n)) → ∀ k, fits .byte (.int (T.2.1 i k)) = true) {p q : Nat} {sp dp n : Int32} (e : aCpy h p q sp dp n = some h') : okM T h' ∧ leM h h' := by
  unfold aCpy at e
  split at e
  · cases e
  · rename_i n0 n1 hc
    split at e
    · cases e
    · cases e
      unfold cpyK at hc
      split at hc
      · rename_i k0 k1
        refine hM.sw (hM.dyn hT (Or.inr ⟨_, _, (by intro t q; cases q), k1⟩)) (fun n q => ?_)
        rw [k1] at q; cases q
      · rename_i k0 k1
        refine hM.sw (hM.dyn hT (Or.inr ⟨_, _, (by intro t q; cases q), k1⟩)) (fun n q k => ?_)
        unfold va_cpy
        split
        · exact hM.2.2.2.2.1 _ _ k0 _
        · exact hM.2.2.2.2.1 _ _ k1 _
      · rename_i k0 k1
        refine hM.sw (hM.dyn hT (Or.inr ⟨_, _, (by intro t q; cases q), k1⟩)) (fun n q k => ?_)
        unfold va_cpy
        split
        · have hp : p < nS := by
            rcases Nat.lt_or_ge p nS with z | z
            · exact z
            · exact (arrT_no ((hM.2.2.2.2.2 p z).2 _ _ k0)).elim
          rw [(hM.2.2.1 p hp).2.1]
          exact hTb _ _ hp ((hM.2.2.1 p hp).1 ▸ k0) _
        · exact hM.2.2.2.2.1 _ _ k1 _
      · cases hc
