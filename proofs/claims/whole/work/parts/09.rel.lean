-- ===== the words, usable at every later state =====
def nestW : Cond → Bool
  | .fieldLinkNest .. => true
  | .methodLinkNest .. => true
  | .castable .. => true
  | .declares _ => true
  | _ => false
def useW (w : Cond) : Bool := goodWord w || nestW w
def WD (U : State) : Prop := ∀ w ∈ lw_tbl, useW w = true → w.before #[] U = true
theorem useW_or {w : Cond} (h : useW w = true) (hg : ¬ goodWord w = true) : nestW w = true := by
  unfold useW at h
  rw [Bool.or_eq_true] at h
  exact h.resolve_left hg
theorem WD.warm {s U : State} (hW : s.WarmedH U.vm) (h : WD s) : WD U := by
  intro w hw hu
  have h0 := h w hw hu
  by_cases hg : goodWord w = true
  · exact word_at hW (good_of_word hg) h0
  · have hn := useW_or hu hg
    clear hg hu hw
    cases w <;> first | exact va_Nw.warmF hW h0 | exact va_Nw.warmM hW h0 | exact va_Nw.warmC hW h0 | exact va_Nw.warmD hW h0 | cases hn
theorem WD.use {U : State} (h : WD U) {w : Cond} (hw : w ∈ lw_tbl) (hu : useW w = true) (args : Array Value) : w.before args U = true := by
  have h0 := h w hw hu
  by_cases hg : goodWord w = true
  · exact word_at (State.WarmedH.refl U) (good_of_word hg) h0
  · have hn := useW_or hu hg
    clear hg hu hw
    cases w <;> first | exact va_Nw.use rfl h0 | cases hn
-- ===== values and locals, with the cells' addresses =====
def cv (φ : Nat → Nat) (v : Value) : Value := match v with
  | .ref i => .ref (φ i)
  | w => w
theorem cv_cat (φ : Nat → Nat) (v : Value) : (cv φ v).category = v.category := by cases v <;> rfl
theorem cv_rf (φ : Nat → Nat) (x : Option Nat) : cv φ (va_rf x) = va_rf (x.map φ) := by cases x <;> rfl
theorem cv_ext {φ ψ : Nat → Nat} {n : Nat} (h : ∀ i, i < n → ψ i = φ i) {v : Value} (hv : okV n v) : cv ψ v = cv φ v := by
  cases v with
  | ref i => exact congrArg Value.ref (h i (hv i rfl))
  | _ => rfl
theorem cvS_ext {φ ψ : Nat → Nat} {n : Nat} (h : ∀ i, i < n → ψ i = φ i) {st : List Value} (hv : okS n st) : st.map (cv ψ) = st.map (cv φ) := List.map_congr_left (fun v hm => cv_ext h (hv v hm))
def ascF (φ : Nat → Nat) : Nat → Lc → List (Nat × Value)
  | _, [] => []
  | k, none :: t => ascF φ (k + 1) t
  | k, some v :: t => (k, cv φ v) :: ascF φ (k + 1) t
theorem mem_ascF {φ : Nat → Nat} {q : Nat × Value} : ∀ {L : Lc} {k : Nat}, q ∈ ascF φ k L ↔ ∃ j v, q = (k + j, cv φ v) ∧ getL L j = some v := by
  intro L
  induction L with
  | nil => intro k; constructor
           · intro h; cases h
           · rintro ⟨j, v, -, h⟩; cases h
  | cons x t ih =>
    intro k
    cases x with
    | none =>
      rw [ascF, ih]
      constructor
      · rintro ⟨j, v, e, h⟩; exact ⟨j + 1, v, by rw [e]; congr 1; omega, h⟩
      · rintro ⟨j, v, e, h⟩
        match j, h with
        | j + 1, h => exact ⟨j, v, by rw [e]; congr 1; omega, h⟩
    | some w =>
      rw [ascF, List.mem_cons, ih]
      constructor
      · rintro (e | ⟨j, v, e, h⟩)
        · exact ⟨0, w, e, rfl⟩
        · exact ⟨j + 1, v, by rw [e]; congr 1; omega, h⟩
      · rintro ⟨j, v, e, h⟩
        match j, h with
        | 0, h => cases h; exact Or.inl e
        | j + 1, h => exact Or.inr ⟨j, v, by rw [e]; congr 1; omega, h⟩
def lvR (φ : Nat → Nat) (ls : Array Slot) (nL : Nat) (L : Lc) : Prop := lv_has ls nL (ascF φ 0 L)
theorem lvR.get {φ : Nat → Nat} {ls : Array Slot} {nL : Nat} {L : Lc} (h : lvR φ ls nL L) {i : Nat} {v : Value} (e : getL L i = some v) : ls[i]? = some (.val (cv φ v)) := h.2.2 (i, cv φ v) (mem_ascF.mpr ⟨i, v, by rw [Nat.zero_add], e⟩)
theorem getL_killL {x : Option Value} {v : Value} (h : killL x = some v) : x = some v ∧ v.category = 1 := by
  unfold killL at h
  split at h
  · cases h
  · cases h
  · rename_i n1 n2
    refine ⟨h, ?_⟩
    cases v with
    | long z => exact absurd h (n1 z)
    | double z => exact absurd h (n2 z)
    | _ => rfl
theorem getL_setL {v : Value} : ∀ {L : Lc} {i j : Nat} {w : Value}, getL (setL L i v) j = some w → (j = i ∧ w = v) ∨ (j ≠ i ∧ getL L j = some w ∧ ¬ (j + 1 = i ∧ w.category = 2)) := by
  intro L
  induction L with
  | nil =>
    intro i
    induction i with
    | zero =>
      intro j w h
      match j, h with
      | 0, h => cases h; exact Or.inl ⟨rfl, rfl⟩
      | j + 1, h => cases h
    | succ i ih =>
      intro j w h
      match j, h with
      | 0, h => cases h
      | j + 1, h =>
        rcases ih h with ⟨e1, e2⟩ | ⟨e1, e2, -⟩
        · exact Or.inl ⟨by rw [e1], e2⟩
        · cases e2
  | cons x t ih =>
    intro i j w h
    match i, j, h with
    | 0, 0, h => cases h; exact Or.inl ⟨rfl, rfl⟩
    | 0, j + 1, h => exact Or.inr ⟨by omega, h, by omega⟩
    | 1, 0, h =>
      obtain ⟨e1, e2⟩ := getL_killL (show killL x = some w from h)
      exact Or.inr ⟨by omega, e1, by rw [e2]; omega⟩
    | 1, j + 1, h =>
      rcases ih (i := 0) h with ⟨e1, e2⟩ | ⟨e1, e2, e3⟩
      · exact Or.inl ⟨by omega, e2⟩
      · exact Or.inr ⟨by omega, e2, fun q => by omega⟩
    | i + 2, 0, h => exact Or.inr ⟨by omega, h, by omega⟩
    | i + 2, j + 1, h =>
      rcases ih (i := i + 1) h with ⟨e1, e2⟩ | ⟨e1, e2, e3⟩
      · exact Or.inl ⟨by omega, e2⟩
      · exact Or.inr ⟨by omega, e2, fun q => e3 ⟨by omega, q.2⟩⟩
theorem getL_nonL : ∀ {L : Lc} {i j : Nat} {w : Value}, getL (nonL L i) j = some w → j ≠ i ∧ getL L j = some w := by
  intro L
  induction L with
  | nil => intro i j w h; cases h
  | cons x t ih =>
    intro i j w h
    match i, j, h with
    | 0, 0, h => cases h
    | 0, j + 1, h => exact ⟨by omega, h⟩
    | i + 1, 0, h => exact ⟨by omega, h⟩
    | i + 1, j + 1, h =>
      obtain ⟨e1, e2⟩ := ih h
      exact ⟨by omega, e2⟩
theorem getL_catL : ∀ {L : Lc} {i j : Nat} {w : Value}, getL (catL L i) j = some w → j ≠ i ∧ getL L j = some w ∧ ¬ (j + 1 = i ∧ w.category = 2) := by
  intro L
  induction L with
  | nil => intro i j w h; cases h
  | cons x t ih =>
    intro i j w h
    match i, j, h with
    | 0, 0, h => cases h
    | 0, j + 1, h => exact ⟨by omega, h, by omega⟩
    | 1, 0, h =>
      obtain ⟨e1, e2⟩ := getL_killL (show killL x = some w from h)
      exact ⟨by omega, e1, by rw [e2]; omega⟩
    | 1, j + 1, h =>
      obtain ⟨e1, e2, e3⟩ := ih (i := 0) h
      exact ⟨by omega, e2, fun q => by omega⟩
    | i + 2, 0, h => exact ⟨by omega, h, by omega⟩
    | i + 2, j + 1, h =>
      obtain ⟨e1, e2, e3⟩ := ih (i := i + 1) h
      exact ⟨by omega, e2, fun q => e3 ⟨by omega, q.2⟩⟩
/-- the kit's lists of locals behind a store hold mine -/
theorem lvR.set {φ : Nat → Nat} {ls' : Array Slot} {nL : Nat} {L : Lc} {i : Nat} {v : Value} (h : lv_has ls' nL ((i, cv φ v) :: (ascF φ 0 L).filter (fun q => !(q.1 == i) && !(q.1 + 1 == i && q.2.category == 2)))) : lvR φ ls' nL (setL L i v) := by
  refine ⟨h.1, h.2.1, fun q hq => ?_⟩
  obtain ⟨j, w, e, hj⟩ := mem_ascF.mp hq
  rw [Nat.zero_add] at e
  refine h.2.2 q ?_
  rcases getL_setL hj with ⟨e1, e2⟩ | ⟨e1, e2, e3⟩
  · rw [e, e1, e2]; exact List.mem_cons_self
  · refine List.mem_cons_of_mem _ (List.mem_filter.mpr ⟨mem_ascF.mpr ⟨j, w, by rw [Nat.zero_add]; exact e, e2⟩, ?_⟩)
    rw [e]
    simp only [Bool.and_eq_true, Bool.not_eq_true', beq_eq_false_iff_ne, ne_eq, Bool.and_eq_false_iff, cv_cat]
    refine ⟨e1, ?_⟩
    by_cases z : j + 1 = i
    · exact Or.inr (fun q => e3 ⟨z, q⟩)
    · exact Or.inl z
theorem lvR.set2 {φ : Nat → Nat} {ls' : Array Slot} {nL : Nat} {L : Lc} {i : Nat} {v : Value} (h : lv_has ls' nL ((i, cv φ v) :: (ascF φ 0 L).filter (fun q => !(q.1 == i) && (!(q.1 == i + 1) && !(q.1 + 1 == i && q.2.category == 2))))) : lvR φ ls' nL (setL2 L i v) := by
  refine ⟨h.1, h.2.1, fun q hq => ?_⟩
  obtain ⟨j, w, e, hj⟩ := mem_ascF.mp hq
  rw [Nat.zero_add] at e
  refine h.2.2 q ?_
  obtain ⟨n1, hj⟩ := getL_nonL hj
  rcases getL_setL hj with ⟨e1, e2⟩ | ⟨e1, e2, e3⟩
  · rw [e, e1, e2]; exact List.mem_cons_self
  · refine List.mem_cons_of_mem _ (List.mem_filter.mpr ⟨mem_ascF.mpr ⟨j, w, by rw [Nat.zero_add]; exact e, e2⟩, ?_⟩)
    rw [e]
    simp only [Bool.and_eq_true, Bool.not_eq_true', beq_eq_false_iff_ne, ne_eq, Bool.and_eq_false_iff, cv_cat]
    refine ⟨e1, n1, ?_⟩
    by_cases z : j + 1 = i
    · exact Or.inr (fun q => e3 ⟨z, q⟩)
    · exact Or.inl z
theorem lvR.cat {φ : Nat → Nat} {ls' : Array Slot} {nL : Nat} {L : Lc} {i : Nat} {v : Value} (h : lv_has ls' nL ((i, v) :: (ascF φ 0 L).filter (fun q => !(q.1 == i) && !(q.1 + 1 == i && q.2.category == 2)))) : lvR φ ls' nL (catL L i) := by
  refine ⟨h.1, h.2.1, fun q hq => ?_⟩
  obtain ⟨j, w, e, hj⟩ := mem_ascF.mp hq
  rw [Nat.zero_add] at e
  refine h.2.2 q ?_
  obtain ⟨e1, e2, e3⟩ := getL_catL hj
  refine List.mem_cons_of_mem _ (List.mem_filter.mpr ⟨mem_ascF.mpr ⟨j, w, by rw [Nat.zero_add]; exact e, e2⟩, ?_⟩)
  rw [e]
  simp only [Bool.and_eq_true, Bool.not_eq_true', beq_eq_false_iff_ne, ne_eq, Bool.and_eq_false_iff, cv_cat]
  refine ⟨e1, ?_⟩
  by_cases z : j + 1 = i
  · exact Or.inr (fun q => e3 ⟨z, q⟩)
  · exact Or.inl z
theorem getL_mem {L : Lc} {i : Nat} {v : Value} (h : getL L i = some v) : some v ∈ L := by
  induction L generalizing i with
  | nil => cases h
  | cons x t ih =>
    match i, h with
    | 0, h => exact (show x = some v from h) ▸ List.mem_cons_self
    | i + 1, h => exact List.mem_cons_of_mem _ (ih h)
theorem lvR.ext {φ ψ : Nat → Nat} {ls : Array Slot} {nL n : Nat} {L : Lc} (h : lvR φ ls nL L) (hL : okL n L) (he : ∀ i, i < n → ψ i = φ i) : lvR ψ ls nL L := by
  refine ⟨h.1, h.2.1, fun q hq => ?_⟩
  obtain ⟨j, w, e, hj⟩ := mem_ascF.mp hq
  rw [e, cv_ext he (hL w (getL_mem hj)), Nat.zero_add]
  exact h.get hj
