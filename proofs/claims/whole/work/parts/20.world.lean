-- ===== the world: classes' numbers and slots, array classes, the first new address, the constants' addresses, the constants =====
abbrev Gx : Type := va_G × (FieldType → ClassId) × Nat × (Nat → Nat) × St
def classes : List vw_C := cTab.map (fun q => (q.1, q.2.1, q.2.2.1))
def tysG (G : Gx) : List (ClassId × FieldType) := [(G.2.1 .int, .int), (G.2.1 .byte, .byte), (G.2.1 .long, .long), (G.2.1 tyS, tyS)]
abbrev rowT : Type := (Nat → Int32) ⊕ (Nat → Int64) ⊕ (Nat → UInt32) ⊕ (Nat → UInt64) ⊕ (Nat → Option Nat)
def rowE (φ : Nat → Nat) (h : Mm) (i : Nat) (ty : FieldType) : rowT := match ty with
  | .long => .inr (.inl (h.ml i))
  | .object _ => .inr (.inr (.inr (.inr (fun k => (h.mr i k).map φ))))
  | _ => .inl (h.mi i)
def fldE (φ : Nat → Nat) (h : Mm) (i c : Nat) : List Value := (List.range (fszC c)).map (fun k => cv φ (slotV h i k (ftyC c k)))
def entE (G : Gx) (φ : Nat → Nat) (h : Mm) (i : Nat) : va_E := match h.kd i with
  | some (.inl c) => .inr (c, fldE φ h i c)
  | some (.inr (ty, n)) => .inl (G.2.1 ty, n, rowE φ h i ty)
  | none => .inr (0, [])
def wsM (G : Gx) (φ : Nat → Nat) (h : Mm) : va_W := (List.range' nS (h.sz - nS)).map (fun i => (φ i, entE G φ h i))
def Aq (G : Gx) : Nat → Prop := fun q => G.2.2.1 ≤ q
theorem wsM_get {G : Gx} {φ : Nat → Nat} {h : Mm} {p : Nat} (h1 : nS ≤ p) (h2 : p < h.sz) : (wsM G φ h)[p - nS]? = some (φ p, entE G φ h p) := by
  unfold wsM
  rw [List.getElem?_map, List.getElem?_range']
  · simp only [Option.map_some]
    rw [show nS + 1 * (p - nS) = p by omega]
  · omega
theorem wsM_len {G : Gx} {φ : Nat → Nat} {h : Mm} : (wsM G φ h).length = h.sz - nS := by
  unfold wsM
  rw [List.length_map, List.length_range']
theorem wsM_ix {G : Gx} {φ : Nat → Nat} {h : Mm} (j : Nat) : (wsM G φ h)[j]? = if j < h.sz - nS then some (φ (nS + j), entE G φ h (nS + j)) else none := by
  by_cases hj : j < h.sz - nS
  · rw [if_pos hj]
    have := wsM_get (G := G) (φ := φ) (h := h) (p := nS + j) (by omega) (by omega)
    rw [show nS + j - nS = j by omega] at this
    exact this
  · rw [if_neg hj, List.getElem?_eq_none (by rw [wsM_len]; omega)]
/-- one cell written -/
theorem wsM_set {G : Gx} {φ : Nat → Nat} {h h' : Mm} {p : Nat} (h1 : nS ≤ p) (h2 : p < h.sz) (hs : h'.sz = h.sz) (he : ∀ i, i ≠ p → entE G φ h' i = entE G φ h i) : (wsM G φ h).set (p - nS) (φ p, entE G φ h' p) = wsM G φ h' := by
  refine List.ext_getElem? fun j => ?_
  rw [List.getElem?_set, wsM_ix, wsM_ix, wsM_len, hs]
  by_cases hj : p - nS = j
  · subst hj
    rw [if_pos rfl, if_pos (by omega), if_pos (by omega), show nS + (p - nS) = p by omega]
  · rw [if_neg hj]
    by_cases hl : j < h.sz - nS
    · rw [if_pos hl, if_pos hl, he (nS + j) (by omega)]
    · rw [if_neg hl, if_neg hl]
theorem slotV_ext {T : St} {h : Mm} (hM : okM T h) {φ ψ : Nat → Nat} (he : ∀ i, i < h.sz → ψ i = φ i) {i k : Nat} {ty : FieldType} : cv ψ (slotV h i k ty) = cv φ (slotV h i k ty) := cv_ext he (slotV_ok hM)
theorem rowE_ext {T : St} {h : Mm} (hM : okM T h) {φ ψ : Nat → Nat} (he : ∀ i, i < h.sz → ψ i = φ i) {i : Nat} {ty : FieldType} : rowE ψ h i ty = rowE φ h i ty := by
  unfold rowE
  split
  · rfl
  · congr 4
    funext k
    cases e : h.mr i k with
    | none => rfl
    | some j => exact congrArg some (he j (hM.2.2.2.1 i k j e))
  · rfl
theorem entE_ext {T : St} {G : Gx} {h : Mm} (hM : okM T h) {φ ψ : Nat → Nat} (he : ∀ i, i < h.sz → ψ i = φ i) (i : Nat) : entE G ψ h i = entE G φ h i := by
  unfold entE
  split
  · congr 2
    unfold fldE
    exact List.map_congr_left (fun k _ => slotV_ext hM he)
  · congr 2
    rw [rowE_ext hM he]
  · rfl
/-- one cell made -/
theorem wsM_nw {T : St} {G : Gx} {φ : Nat → Nat} {h : Mm} (hM : okM T h) {x : Nat ⊕ (FieldType × Nat)} {n q : Nat} : wsM G (zu φ h.sz q) (h.nw (some x) n) = wsM G φ h ++ [(q, entE G (zu φ h.sz q) (h.nw (some x) n) h.sz)] := by
  have hs : (h.nw (some x) n).sz = h.sz + 1 := rfl
  have h1 := hM.1
  have he : ∀ i, i < h.sz → zu φ h.sz q i = φ i := fun i hi => by rw [zu, if_neg (by omega)]
  have hold : ∀ i, i < h.sz → entE G (zu φ h.sz q) (h.nw (some x) n) i = entE G φ h i := by
    intro i hi
    rw [← entE_ext (G := G) hM he i]
    have k1 : (h.nw (some x) n).kd i = h.kd i := by
      show zu h.kd h.sz _ i = _
      rw [zu, if_neg (by omega)]
    have k2 : (h.nw (some x) n).mi i = h.mi i := by
      show zu h.mi h.sz _ i = _
      rw [zu, if_neg (by omega)]
    have k3 : (h.nw (some x) n).ml i = h.ml i := by
      show zu h.ml h.sz _ i = _
      rw [zu, if_neg (by omega)]
    have k4 : (h.nw (some x) n).mr i = h.mr i := by
      show zu h.mr h.sz _ i = _
      rw [zu, if_neg (by omega)]
    unfold entE
    rw [k1]
    split
    · congr 2
      unfold fldE
      refine List.map_congr_left (fun k _ => ?_)
      unfold slotV
      rw [k2, k3, k4]
    · congr 2
      unfold rowE
      rw [k2, k3, k4]
    · rfl
  refine List.ext_getElem? fun j => ?_
  rw [wsM_ix, hs]
  by_cases hj : j < h.sz - nS
  · rw [List.getElem?_append_left (by rw [wsM_len]; exact hj), wsM_ix, if_pos hj, if_pos (by omega), he _ (by omega), hold _ (by omega)]
  · rw [List.getElem?_append_right (by rw [wsM_len]; omega), wsM_len]
    by_cases hj2 : j = h.sz - nS
    · rw [if_pos (by omega), show nS + j = h.sz by omega, show j - (h.sz - nS) = 0 by omega, zu, if_pos rfl]
      rfl
    · rw [if_neg (by omega), List.getElem?_eq_none (by simp only [List.length_singleton]; omega)]
-- ===== what is known of the constants =====
def slotT (T : St) (i k : Nat) (ty : FieldType) : Value := match ty with
  | .object _ => va_rf (T.2.2 i k)
  | .array _ => va_rf (T.2.2 i k)
  | _ => .int (T.2.1 i k)
def elT (sa : Nat → Nat) (T : St) (i : Nat) (ty : FieldType) (j : Nat) : Value := match ty with
  | .object _ => cv sa (va_rf (T.2.2 i j))
  | _ => .int (T.2.1 i j)
def Sta (G : Gx) (U : State) : Prop :=
  (∀ i q, i < nS → q ∈ sfld → G.2.2.2.2.1 i = some (.inl (q.1 + 1000)) → va_OF q.2.2.1 q.2.2.2.1 q.2.2.2.2.1 (cv G.2.2.2.1 (slotT G.2.2.2.2 i q.2.1 q.2.2.2.2.2)) (G.2.2.2.1 i) (Aq G) U U.heap) ∧
  (∀ i, i < nS → G.2.2.2.2.1 i = some (.inl 1009) → va_O "java/lang/String" (G.2.2.2.1 i) (Aq G) U U.heap) ∧
  (∀ i ty n, i < nS → G.2.2.2.2.1 i = some (.inr (.array ty, n)) → va_T ty (G.2.2.2.1 i) n (elT G.2.2.2.1 G.2.2.2.2 i ty) (Aq G) U U.heap) ∧
  (∀ e ∈ SR, vk_R e.1 e.2.1 e.2.2.1 (G.2.2.2.1 e.2.2.2) U) ∧
  (∀ e ∈ sFld, va_Z e.1 e.2.1 e.2.2.1 (cv G.2.2.2.1 e.2.2.2) (Aq G) U U.heap) ∧
  (vx_Zq Bundle.tN "UNASSIGNED_STACK" Bundle.steD (Aq G) U U.heap ∧ vx_Zq Bundle.tN "SUPPRESSED_SENTINEL" Bundle.listD (Aq G) U U.heap) ∧
  (∀ e ∈ XR, ∃ a, vk_R e.1 e.2.2.1 e.2.2.2.2.2.1 a U) ∧
  (∀ i j, i < 4 → j < 4 → i ≠ j → va_Nc (exN i) (exN j) U) ∧
  va_Zq "jdk/internal/util/Preconditions" "SIOOBE_FORMATTER" "Ljava/util/function/BiFunction;" (Aq G) U U.heap ∧ va_AO "FishGrader$State" U ∧ ∀ e ∈ MIpr, (Cond.selects "java/lang/StringBuilder" e.1 e.1).before #[] U = true
theorem Sta.go {G : Gx} {s U : State} (hW : s.WarmedH U.vm) (hk : ∀ a : Nat, a < s.heap.size → ¬ Aq G a → U.heap[a]? = s.heap[a]?) (h : Sta G s) : Sta G U := by
  obtain ⟨h1, h2, h3, h4, h5, ⟨h6, h6'⟩, h7, h8, h9, h10, h11⟩ := h
  have hv := hW.alike
  exact ⟨fun i q a b c => ((h1 i q a b c).kept hk).moved hv, fun i a b => ((h2 i a b).kept hk).moved hv, fun i ty n a b => ((h3 i ty n a b).kept hk).moved hv, fun e he => vk_R.warm hW (h4 e he), fun e he => ((h5 e he).kept hk).moved hv, ⟨(h6.kept hk).moved hv, (h6'.kept hk).moved hv⟩, fun e he => (h7 e he).elim fun a ha => ⟨a, vk_R.warm hW ha⟩, fun i j a b c => (h8 i j a b c).moved hv, (h9.kept hk).moved hv, va_AO.moved hv h10, fun e he => word_at hW (Or.inl rfl) (h11 e he)⟩
/-- what holds at a method's start -/
def Sx (G : Gx) (U : State) : Prop := WD U ∧ va_K G.1 classes (tysG G) U ∧ Sta G U ∧ G.2.2.1 ≤ U.heap.size
theorem Sx.go {G : Gx} {s U : State} (hW : s.WarmedH U.vm) (hz : s.heap.size ≤ U.heap.size) (hk : ∀ a : Nat, a < s.heap.size → ¬ Aq G a → U.heap[a]? = s.heap[a]?) (h : Sx G s) : Sx G U := ⟨h.1.warm hW, va_K.moved hW.alike h.2.1, h.2.2.1.go hW hk, Nat.le_trans h.2.2.2 hz⟩
/-- the cells, at any point -/
def Wp (G : Gx) (φ : Nat → Nat) (h : Mm) (H : Heap) : Prop := va_P G.1 classes (wsM G φ h) H ∧ va_D (Aq G) (wsM G φ h) ∧ ∀ i, i < nS → φ i = G.2.2.2.1 i
/-- a state that holds a memory -/
def UR (G : Gx) (φ : Nat → Nat) (h : Mm) (U : State) : Prop := Sx G U ∧ Wp G φ h U.heap
