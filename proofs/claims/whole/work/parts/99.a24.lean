-- ===== the model's parser: keyword, number, measure, isName, kindHere =====
def mI (i : Nat) : Nat := if i < 8 then 8 + 2 * i else 10 + 2 * i
def WMD (h : Mm) : Prop := (∀ i, i < 15 → STR h (mI i) (mI i + 1) (kwN i + 2) (spC i) ∧ h.kd (mI i) = some (.inl (9 + 1000))) ∧ STR h 24 25 rvN rvC ∧ h.kd 24 = some (.inl (9 + 1000))
/-- the state of the model's parser -/
def MS (F : Nat → Int32) (w : Int64) (n : Nat) (T : Nat → Nat) (x : PE Tok) : Prop := match x with
  | .inl e => 0 < e.1 ∧ e.1 < 7 ∧ F 5 = Int32.ofNat e.1 ∧ F 6 = Int32.ofNat e.2
  | .inr t => MT F w n T t ∧ tOk n t ∧ (∃ p, p ≤ n ∧ t = tok T n p) ∧ F 5 = 0 ∧ F 6 = -1
def keepF (F F' : Nat → Int32) : Prop := ∀ j, j < 4 ∨ 9 < j → F' j = F j
theorem keepF.rf {F : Nat → Int32} : keepF F F := fun _ _ => rfl
theorem keepF.tr {F F' F2 : Nat → Int32} (a : keepF F F') (b : keepF F' F2) : keepF F F2 := fun j hj => (b j hj).trans (a j hj)
theorem keepF.of {F F' : Nat → Int32} (k : keepM F F') : keepF F F' := fun j hj => k j (by omega) (by omega) (by omega) (by omega)
def vlE (lo : Nat) (y : PE (Nat × Tok)) : Nat := match y with
  | .inl _ => lo
  | .inr a => a.1
def sdE {A : Type} (y : PE (A × Tok)) : PE Tok := match y with
  | .inl e => .inl e
  | .inr a => .inr a.2
section MPB
variable {h : Mm} {n : Nat} {T : Nat → Nat} {F : Nat → Int32} {w : Int64} {t : Tok} {x : PE Tok}
theorem ms_5 {e : Nat × Nat} (M : MS F w n T (.inl e)) : ¬ F 5 ≤ 0 := by
  obtain ⟨a, b, c, -⟩ := M
  rw [c]
  show ¬ Int32.ofNat e.1 ≤ Int32.ofNat 0
  rw [i32_le (by omega) (by omega)]; omega
theorem ms_k2 (M : MS F w n T (.inr t)) : F 7 = 2 ↔ t.2.2.1 = 2 := by
  obtain ⟨⟨-, -, f7, -⟩, ⟨-, -, k5⟩, -⟩ := M
  rw [f7]
  have : t.2.2.1 = 0 ∨ t.2.2.1 = 1 ∨ t.2.2.1 = 2 ∨ t.2.2.1 = 3 ∨ t.2.2.1 = 4 := by omega
  rcases this with e | e | e | e | e <;> rw [e] <;> decide
theorem ms_k3 (M : MS F w n T (.inr t)) : F 7 = 3 ↔ t.2.2.1 = 3 := by
  obtain ⟨⟨-, -, f7, -⟩, ⟨-, -, k5⟩, -⟩ := M
  rw [f7]
  have : t.2.2.1 = 0 ∨ t.2.2.1 = 1 ∨ t.2.2.1 = 2 ∨ t.2.2.1 = 3 ∨ t.2.2.1 = 4 := by omega
  rcases this with e | e | e | e | e <;> rw [e] <;> decide
theorem ms_le (M : MS F w n T (.inr t)) (h2 : t.2.2.1 = 2) : tLe T t := by
  obtain ⟨-, -, ⟨p, -, rfl⟩, -⟩ := M
  exact tok_l h2
theorem s_333 (H : MO h) (B : MTO h n T) (W : WMD h) (M : MS F w n T (.inr t)) {p i : Nat} (ep : p = mI i) (hi : i < 15) : dM PG 333 [.ref 277, .ref p] (h.mt F w) = some (.inl (some (.int (b2i (isK T t i)))), h.mt F w) := by
  subst ep
  have hm : mI i + 1 < 200 := by
    unfold mI
    split <;> omega
  have f5 := M.2.2.2.1
  by_cases c : t.2.2.1 = 2
  · have g := m_333 (w := w) H B (W.1 i hi).1 (W.1 i hi).2 (by omega) hm M.2.1.1.1 M.2.1.1.2 M.1.2.1 M.1.2.2.2.1 f5 ((ms_k2 M).mpr c)
    rw [isS_k hi (ms_le M c)] at g
    exact g
  · have e : isK T t i = false := by
      cases q : isK T t i with
      | false => rfl
      | true =>
        obtain ⟨-, -, ⟨p, -, rfl⟩, -⟩ := M
        exact absurd (isK_2 hi q) c
    rw [e, b2i_0]
    exact m_333k H f5 (fun q => c ((ms_k2 M).mp q))
theorem s_333r (H : MO h) (B : MTO h n T) (W : WMD h) (M : MS F w n T (.inr t)) (c : t.2.2.1 = 2) : dM PG 333 [.ref 277, .ref 24] (h.mt F w) = some (.inl (some (.int (b2i (fnd (isK T t) 15 0).isSome))), h.mt F w) := by
  have g := m_333 (w := w) H B W.2.1 W.2.2 (by omega) (by omega) M.2.1.1.1 M.2.1.1.2 M.1.2.1 M.1.2.2.2.1 M.2.2.2.1 ((ms_k2 M).mpr c)
  rw [isS_r (ms_le M c)] at g
  exact g
theorem ms_rep (M : MS F w n T (.inr t)) {k : Nat} {x : Int32} (hk : 0 < k) (h7 : k < 7) {w' : Int64} (ex : x = Int32.ofNat k := by rfl) : MS (zu (zu F 5 x) 6 (F 8)) w' n T (.inl (k, t.1)) := by
  refine ⟨hk, h7, ?_, ?_⟩
  · rw [zu_o (by decide), zu_same, ex]
  · rw [zu_same]; exact M.1.2.2.2.1
theorem kf_rep {a b : Int32} : keepF F (zu (zu F 5 a) 6 b) := fun j hj => by rw [zu_o (by omega), zu_o (by omega)]
theorem s_294 (H : MO h) (B : MTO h n T) (M : MS F w n T (.inr t)) : ∃ F' w', dM PG 294 [.ref 277] (h.mt F w) = some (.inl none, h.mt F' w') ∧ MS F' w' n T (.inr (tok T n t.2.1)) ∧ keepF F F' := by
  have hp := M.2.1.1.2
  obtain ⟨F', w', g, K, kk⟩ := m_294 (w := w) H B hp M.1.1 M.1.2.1 M.2.2.2.1
  refine ⟨F', w', g, ⟨K, tok_ok hp, ⟨_, hp, rfl⟩, ?_, ?_⟩, keepF.of kk⟩
  · rw [kk 5 (by decide) (by decide) (by decide) (by decide)]; exact M.2.2.2.1
  · rw [kk 6 (by decide) (by decide) (by decide) (by decide)]; exact M.2.2.2.2
theorem s_294x (H : MO h) (B : MTO h n T) (M : MS F w n T x) : ∃ F' w', dM PG 294 [.ref 277] (h.mt F w) = some (.inl none, h.mt F' w') ∧ MS F' w' n T (pB x fun t => .inr (tok T n t.2.1)) ∧ keepF F F' := by
  cases x with
  | inl e => exact ⟨F, w, m_294e H (ms_5 M), M, keepF.rf⟩
  | inr t => exact s_294 H B M
theorem s_297x (H : MO h) (M : MS F w n T x) {k : Nat} (hk : 0 < k) (h7 : k < 7) : ∃ F', dM PG 297 [.ref 277, .int (Int32.ofNat k)] (h.mt F w) = some (.inl none, h.mt F' w) ∧ MS F' w n T (pB x fun t => .inl (k, t.1)) ∧ keepF F F' := by
  cases x with
  | inl e => exact ⟨F, m_297e H (ms_5 M), M, keepF.rf⟩
  | inr t => exact ⟨_, m_297 H M.2.2.2.1, ms_rep M hk h7, kf_rep⟩
theorem R_331 : PG.2.1 331 = none := rfl
theorem s_331 (H : MO h) (B : MTO h n T) (W : WMD h) (M : MS F w n T x) {p i : Nat} (ep : p = mI i) (hi : i < 15) : ∃ F' w', dM PG 331 [.ref 277, .ref p] (h.mt F w) = some (.inl none, h.mt F' w') ∧ MS F' w' n T (pB x (pKw T n i)) ∧ keepF F F' := by
  cases x with
  | inl e =>
    have f5 := ms_5 M
    refine ⟨F, w, ?_, M, keepF.rf⟩
    have g1 := m_333e (p := p) (w := w) H f5
    have g2 := m_297e (x := 1) (w := w) H f5
    have g3 := m_294e (w := w) H f5
    rw [dM_of (Nat.le_of_ble_eq_true rfl)]
    simp -implicitDefEqProofs only [D_331_0, k_331_0, D_331_13, k_331_13, R_331, v_aload_n, v_callV2, aft_v, aft_n, g_if_ne, g_iconst, v_callV1, g_return, entL, getL, setL, kL_i, kL_r, isI_s, isR_s, isJ_s, gV_s, iV_i, cs0, cs1, cs2, cs3, cs4, dn_nil, kd_si, kd_sl, kd_sw, mr_si, mr_sl, mr_sw, ml_si, ml_sw, mi_sl, mk_277 H, mk_278 H, mk_279 H, mk_280 H, mk_281 H, mk_282 H, mk_283 H, mk_284 H, mk_285 H, mk_286 H, mk_287 H, mk_288 H, mk_289 H, mr_1 H, mr_11 H, mr_12 H, mr_13 H, mr_14 H, mr_15 H, mr_16 H, mr_17 H, mr_18 H, mr_19 H, mr_24 H, mr_25 H, mt_k, g1, ↓if_true, if_true, g2, g3]
  | inr t =>
    have g1 := s_333 H B W M ep hi
    rw [pB_r]
    unfold pKw
    cases c : isK T t i with
    | true =>
      rw [c, b2i_1] at g1
      rw [if_pos rfl]
      obtain ⟨F', w', g2, M', k⟩ := s_294 H B M
      refine ⟨F', w', ?_, M', k⟩
      rw [dM_of (Nat.le_of_ble_eq_true rfl)]
      simp -implicitDefEqProofs only [D_331_0, k_331_0, D_331_13, k_331_13, R_331, v_aload_n, v_callV2, aft_v, aft_n, g_if_ne, g_iconst, v_callV1, g_return, entL, getL, setL, kL_i, kL_r, isI_s, isR_s, isJ_s, gV_s, iV_i, cs0, cs1, cs2, cs3, cs4, dn_nil, kd_si, kd_sl, kd_sw, mr_si, mr_sl, mr_sw, ml_si, ml_sw, mi_sl, mk_277 H, mk_278 H, mk_279 H, mk_280 H, mk_281 H, mk_282 H, mk_283 H, mk_284 H, mk_285 H, mk_286 H, mk_287 H, mk_288 H, mk_289 H, mr_1 H, mr_11 H, mr_12 H, mr_13 H, mr_14 H, mr_15 H, mr_16 H, mr_17 H, mr_18 H, mr_19 H, mr_24 H, mr_25 H, mt_k, g1, ↓if_neg z_1, if_neg z_1, g2]
    | false =>
      rw [c, b2i_0] at g1
      rw [if_neg Bool.false_ne_true]
      have g2 := m_297 (x := 1) (w := w) H M.2.2.2.1
      have M2 := ms_rep (w' := w) M (k := 1) (x := 1) (by decide) (by decide)
      have g3 := m_294e (w := w) H (ms_5 M2)
      refine ⟨_, w, ?_, M2, kf_rep⟩
      rw [dM_of (Nat.le_of_ble_eq_true rfl)]
      simp -implicitDefEqProofs only [D_331_0, k_331_0, D_331_13, k_331_13, R_331, v_aload_n, v_callV2, aft_v, aft_n, g_if_ne, g_iconst, v_callV1, g_return, entL, getL, setL, kL_i, kL_r, isI_s, isR_s, isJ_s, gV_s, iV_i, cs0, cs1, cs2, cs3, cs4, dn_nil, kd_si, kd_sl, kd_sw, mr_si, mr_sl, mr_sw, ml_si, ml_sw, mi_sl, mk_277 H, mk_278 H, mk_279 H, mk_280 H, mk_281 H, mk_282 H, mk_283 H, mk_284 H, mk_285 H, mk_286 H, mk_287 H, mk_288 H, mk_289 H, mr_1 H, mr_11 H, mr_12 H, mr_13 H, mr_14 H, mr_15 H, mr_16 H, mr_17 H, mr_18 H, mr_19 H, mr_24 H, mr_25 H, mt_k, g1, ↓if_true, if_true, g2, g3]
theorem R_357 : PG.2.1 357 = (some .int) := rfl
theorem s_357 (H : MO h) (B : MTO h n T) (M : MS F w n T x) {lo hi : Nat} (hlo : lo < 2147483648) (hhi : hi < 2147483648) : ∃ F' w', dM PG 357 [.ref 277, .int (Int32.ofNat lo), .int (Int32.ofNat hi)] (h.mt F w) = some (.inl (some (.int (Int32.ofNat (vlE lo (pB x (pNu T n lo hi)))))), h.mt F' w') ∧ MS F' w' n T (sdE (pB x (pNu T n lo hi))) ∧ keepF F F' := by
  cases x with
  | inl e =>
    have f5 := ms_5 M
    refine ⟨F, w, ?_, M, keepF.rf⟩
    rw [dM_of (Nat.le_of_ble_eq_true rfl)]
    simp -implicitDefEqProofs only [D_357_0, k_357_0, D_357_9, k_357_9, D_357_25, k_357_25, D_357_42, k_357_42, D_357_53, k_357_53, D_357_57, k_357_57, R_357, v_aload_n, g_getfield, sv_i, rf_s, g_getfieldS, g_if_le, v_iload_n, g_ireturn, g_iconst, g_icmp_eq, v_callV2, aft_v, aft_n, g_goto, v_callS3, g_if_ne, g_istore_n, v_callV1, entL, getL, setL, kL_i, kL_r, isI_s, isR_s, isJ_s, gV_s, iV_i, cs0, cs1, cs2, cs3, cs4, dn_nil, kd_si, kd_sl, kd_sw, mr_si, mr_sl, mr_sw, ml_si, ml_sw, mi_sl, mk_277 H, mk_278 H, mk_279 H, mk_280 H, mk_281 H, mk_282 H, mk_283 H, mk_284 H, mk_285 H, mk_286 H, mk_287 H, mk_288 H, mk_289 H, mr_1 H, mr_11 H, mr_12 H, mr_13 H, mr_14 H, mr_15 H, mr_16 H, mr_17 H, mr_18 H, mr_19 H, mr_24 H, mr_25 H, mt_k, mt_f, ↓if_neg f5, if_neg f5, retX_int]
    rfl
  | inr t =>
    have f5 := M.2.2.2.1
    have z : (0 : Int32) ≤ 0 := by decide
    have hv : t.2.2.2 < 2147483648 := by have := M.2.1.2.1; omega
    rw [pB_r]
    unfold pNu
    by_cases c3 : t.2.2.1 = 3
    · have e3 := (ms_k3 M).mpr c3
      have e9 := M.1.2.2.2.2.1 c3
      by_cases c : t.2.2.2 < lo ∨ hi < t.2.2.2
      · have en : nuE lo hi t = 2 := by unfold nuE; rw [if_pos c3, if_pos c]
        have i0 : inF (Int32.ofNat t.2.2.2) (Int32.ofNat lo) (Int32.ofNat hi) = 0 := by
          unfold inF
          by_cases c1 : t.2.2.2 < lo
          · rw [if_pos ((i32_lt hv hlo).mpr c1)]
          · rw [if_neg (by rw [i32_lt hv hlo]; exact c1), if_pos ((i32_lt hhi hv).mpr (by omega))]
        rw [en, if_neg (by decide)]
        have g2 := m_297 (x := 2) (w := w) H f5
        have M2 := ms_rep (w' := w) M (k := 2) (x := 2) (by decide) (by decide)
        have n5 := ms_5 M2
        have g3 := m_294e (w := w) H n5
        refine ⟨_, w, ?_, M2, kf_rep⟩
        have n5' : ¬ (zu (zu F 5 2) 6 (F 8)) 5 ≤ 0 := n5
        rw [dM_of (Nat.le_of_ble_eq_true rfl)]
        simp -implicitDefEqProofs only [D_357_0, k_357_0, D_357_9, k_357_9, D_357_25, k_357_25, D_357_42, k_357_42, D_357_53, k_357_53, D_357_57, k_357_57, R_357, v_aload_n, g_getfield, sv_i, rf_s, g_getfieldS, g_if_le, v_iload_n, g_ireturn, g_iconst, g_icmp_eq, v_callV2, aft_v, aft_n, g_goto, v_callS3, g_if_ne, g_istore_n, v_callV1, entL, getL, setL, kL_i, kL_r, isI_s, isR_s, isJ_s, gV_s, iV_i, cs0, cs1, cs2, cs3, cs4, dn_nil, kd_si, kd_sl, kd_sw, mr_si, mr_sl, mr_sw, ml_si, ml_sw, mi_sl, mk_277 H, mk_278 H, mk_279 H, mk_280 H, mk_281 H, mk_282 H, mk_283 H, mk_284 H, mk_285 H, mk_286 H, mk_287 H, mk_288 H, mk_289 H, mr_1 H, mr_11 H, mr_12 H, mr_13 H, mr_14 H, mr_15 H, mr_16 H, mr_17 H, mr_18 H, mr_19 H, mr_24 H, mr_25 H, mt_k, mt_f, f5, ↓if_pos z, if_pos z, e3, ↓if_true, if_true, e9, m_136, i0, g2, ↓if_neg n5', if_neg n5', g3, retX_int]
        rfl
      · have en : nuE lo hi t = 0 := by unfold nuE; rw [if_pos c3, if_neg c]
        have i1 : inF (Int32.ofNat t.2.2.2) (Int32.ofNat lo) (Int32.ofNat hi) = 1 := by
          unfold inF
          rw [if_neg (by rw [i32_lt hv hlo]; omega), if_neg (by rw [i32_lt hhi hv]; omega)]
        rw [en, if_pos rfl]
        obtain ⟨F', w', g2, M', k⟩ := s_294 H B M
        refine ⟨F', w', ?_, M', k⟩
        rw [dM_of (Nat.le_of_ble_eq_true rfl)]
        simp -implicitDefEqProofs only [D_357_0, k_357_0, D_357_9, k_357_9, D_357_25, k_357_25, D_357_42, k_357_42, D_357_53, k_357_53, D_357_57, k_357_57, R_357, v_aload_n, g_getfield, sv_i, rf_s, g_getfieldS, g_if_le, v_iload_n, g_ireturn, g_iconst, g_icmp_eq, v_callV2, aft_v, aft_n, g_goto, v_callS3, g_if_ne, g_istore_n, v_callV1, entL, getL, setL, kL_i, kL_r, isI_s, isR_s, isJ_s, gV_s, iV_i, cs0, cs1, cs2, cs3, cs4, dn_nil, kd_si, kd_sl, kd_sw, mr_si, mr_sl, mr_sw, ml_si, ml_sw, mi_sl, mk_277 H, mk_278 H, mk_279 H, mk_280 H, mk_281 H, mk_282 H, mk_283 H, mk_284 H, mk_285 H, mk_286 H, mk_287 H, mk_288 H, mk_289 H, mr_1 H, mr_11 H, mr_12 H, mr_13 H, mr_14 H, mr_15 H, mr_16 H, mr_17 H, mr_18 H, mr_19 H, mr_24 H, mr_25 H, mt_k, mt_f, f5, ↓if_pos z, if_pos z, e3, ↓if_true, if_true, e9, m_136, i1, ↓if_neg z_1, if_neg z_1, g2, retX_int]
        rfl
    · have e3 : ¬ F 7 = 3 := fun q => c3 ((ms_k3 M).mp q)
      have en : nuE lo hi t = 1 := by unfold nuE; rw [if_neg c3]
      rw [en, if_neg (by decide)]
      have g2 := m_297 (x := 1) (w := w) H f5
      have M2 := ms_rep (w' := w) M (k := 1) (x := 1) (by decide) (by decide)
      have n5 := ms_5 M2
      have g3 := m_294e (w := w) H n5
      refine ⟨_, w, ?_, M2, kf_rep⟩
      have n5' : ¬ (zu (zu F 5 1) 6 (F 8)) 5 ≤ 0 := n5
      rw [dM_of (Nat.le_of_ble_eq_true rfl)]
      simp -implicitDefEqProofs only [D_357_0, k_357_0, D_357_9, k_357_9, D_357_25, k_357_25, D_357_42, k_357_42, D_357_53, k_357_53, D_357_57, k_357_57, R_357, v_aload_n, g_getfield, sv_i, rf_s, g_getfieldS, g_if_le, v_iload_n, g_ireturn, g_iconst, g_icmp_eq, v_callV2, aft_v, aft_n, g_goto, v_callS3, g_if_ne, g_istore_n, v_callV1, entL, getL, setL, kL_i, kL_r, isI_s, isR_s, isJ_s, gV_s, iV_i, cs0, cs1, cs2, cs3, cs4, dn_nil, kd_si, kd_sl, kd_sw, mr_si, mr_sl, mr_sw, ml_si, ml_sw, mi_sl, mk_277 H, mk_278 H, mk_279 H, mk_280 H, mk_281 H, mk_282 H, mk_283 H, mk_284 H, mk_285 H, mk_286 H, mk_287 H, mk_288 H, mk_289 H, mr_1 H, mr_11 H, mr_12 H, mr_13 H, mr_14 H, mr_15 H, mr_16 H, mr_17 H, mr_18 H, mr_19 H, mr_24 H, mr_25 H, mt_k, mt_f, f5, ↓if_pos z, if_pos z, ↓if_neg e3, if_neg e3, g2, ↓if_neg n5', if_neg n5', g3, retX_int]
      rfl
theorem pB_a {A B C : Type} {x : PE A} {f : A → PE B} {g : B → PE C} : pB (pB x f) g = pB x fun a => pB (f a) g := by cases x <;> rfl
theorem R_332 : PG.2.1 332 = (some .int) := rfl
theorem s_332 (H : MO h) (B : MTO h n T) (W : WMD h) (M : MS F w n T x) {p i lo hi : Nat} (ep : p = mI i) (h15 : i < 15) (hlo : lo < 2147483648) (hhi : hi < 2147483648) : ∃ F' w', dM PG 332 [.ref 277, .ref p, .int (Int32.ofNat lo), .int (Int32.ofNat hi)] (h.mt F w) = some (.inl (some (.int (Int32.ofNat (vlE lo (pB x (pNm T n i lo hi)))))), h.mt F' w') ∧ MS F' w' n T (sdE (pB x (pNm T n i lo hi))) ∧ keepF F F' := by
  obtain ⟨F1, w1, g1, M1, k1⟩ := s_331 H B W M ep h15
  obtain ⟨F2, w2, g2, M2, k2⟩ := s_357 H B M1 hlo hhi
  have e : pB (pB x (pKw T n i)) (pNu T n lo hi) = pB x (pNm T n i lo hi) := pB_a
  rw [e] at g2 M2
  refine ⟨F2, w2, ?_, M2, k1.tr k2⟩
  rw [dM_of (Nat.le_of_ble_eq_true rfl)]
  simp -implicitDefEqProofs only [D_332_0, k_332_0, R_332, v_aload_n, v_callV2, aft_v, aft_n, v_iload_n, v_callV3, g_ireturn, entL, getL, setL, kL_i, kL_r, isI_s, isR_s, isJ_s, gV_s, iV_i, cs0, cs1, cs2, cs3, cs4, dn_nil, kd_si, kd_sl, kd_sw, mr_si, mr_sl, mr_sw, ml_si, ml_sw, mi_sl, mk_277 H, mk_278 H, mk_279 H, mk_280 H, mk_281 H, mk_282 H, mk_283 H, mk_284 H, mk_285 H, mk_286 H, mk_287 H, mk_288 H, mk_289 H, mr_1 H, mr_11 H, mr_12 H, mr_13 H, mr_14 H, mr_15 H, mr_16 H, mr_17 H, mr_18 H, mr_19 H, mr_24 H, mr_25 H, mt_k, g1, g2, retX_int]
theorem R_358 : PG.2.1 358 = (some .boolean) := rfl
theorem s_358e (H : MO h) {e : Nat × Nat} (M : MS F w n T (.inl e)) : dM PG 358 [.ref 277] (h.mt F w) = some (.inl (some (.int 0)), h.mt F w) := by
  have f5 : ¬ F 5 = 0 := fun q => ms_5 M (by rw [q]; decide)
  rw [dM_of (Nat.le_of_ble_eq_true rfl)]
  simp -implicitDefEqProofs only [D_358_0, k_358_0, D_358_28, k_358_28, D_358_29, k_358_29, R_358, v_aload_n, g_getfield, sv_i, rf_s, g_getfieldS, g_if_ne, g_iconst, g_icmp_ne, g_ldc, v_callV2, aft_v, aft_n, g_goto, g_ireturn, entL, getL, setL, kL_i, kL_r, isI_s, isR_s, isJ_s, gV_s, iV_i, cs0, cs1, cs2, cs3, cs4, dn_nil, kd_si, kd_sl, kd_sw, mr_si, mr_sl, mr_sw, ml_si, ml_sw, mi_sl, mk_277 H, mk_278 H, mk_279 H, mk_280 H, mk_281 H, mk_282 H, mk_283 H, mk_284 H, mk_285 H, mk_286 H, mk_287 H, mk_288 H, mk_289 H, mr_1 H, mr_11 H, mr_12 H, mr_13 H, mr_14 H, mr_15 H, mr_16 H, mr_17 H, mr_18 H, mr_19 H, mr_24 H, mr_25 H, mt_k, mt_f, ↓if_neg f5, if_neg f5, rX_0]
theorem s_358 (H : MO h) (B : MTO h n T) (W : WMD h) (M : MS F w n T (.inr t)) : dM PG 358 [.ref 277] (h.mt F w) = some (.inl (some (.int (b2i (pNa T t)))), h.mt F w) := by
  have f5 := M.2.2.2.1
  unfold pNa
  by_cases c : t.2.2.1 = 2
  · have g := s_333r H B W M c
    have e7 := (ms_k2 M).mpr c
    rw [decide_eq_true c, Bool.and_true]
    cases e : fnd (isK T t) 15 0 with
    | none =>
      rw [e] at g
      have g : dM PG 333 [.ref 277, .ref 24] (h.mt F w) = some (.inl (some (.int 0)), h.mt F w) := g
      rw [dM_of (Nat.le_of_ble_eq_true rfl)]
      simp -implicitDefEqProofs only [D_358_0, k_358_0, D_358_28, k_358_28, D_358_29, k_358_29, R_358, v_aload_n, g_getfield, sv_i, rf_s, g_getfieldS, g_if_ne, g_iconst, g_icmp_ne, g_ldc, v_callV2, aft_v, aft_n, g_goto, g_ireturn, entL, getL, setL, kL_i, kL_r, isI_s, isR_s, isJ_s, gV_s, iV_i, cs0, cs1, cs2, cs3, cs4, dn_nil, kd_si, kd_sl, kd_sw, mr_si, mr_sl, mr_sw, ml_si, ml_sw, mi_sl, mk_277 H, mk_278 H, mk_279 H, mk_280 H, mk_281 H, mk_282 H, mk_283 H, mk_284 H, mk_285 H, mk_286 H, mk_287 H, mk_288 H, mk_289 H, mr_1 H, mr_11 H, mr_12 H, mr_13 H, mr_14 H, mr_15 H, mr_16 H, mr_17 H, mr_18 H, mr_19 H, mr_24 H, mr_25 H, mt_k, mt_f, f5, e7, ↓if_true, if_true, g, rX_1]
      rfl
    | some k =>
      rw [e] at g
      have g : dM PG 333 [.ref 277, .ref 24] (h.mt F w) = some (.inl (some (.int 1)), h.mt F w) := g
      rw [dM_of (Nat.le_of_ble_eq_true rfl)]
      simp -implicitDefEqProofs only [D_358_0, k_358_0, D_358_28, k_358_28, D_358_29, k_358_29, R_358, v_aload_n, g_getfield, sv_i, rf_s, g_getfieldS, g_if_ne, g_iconst, g_icmp_ne, g_ldc, v_callV2, aft_v, aft_n, g_goto, g_ireturn, entL, getL, setL, kL_i, kL_r, isI_s, isR_s, isJ_s, gV_s, iV_i, cs0, cs1, cs2, cs3, cs4, dn_nil, kd_si, kd_sl, kd_sw, mr_si, mr_sl, mr_sw, ml_si, ml_sw, mi_sl, mk_277 H, mk_278 H, mk_279 H, mk_280 H, mk_281 H, mk_282 H, mk_283 H, mk_284 H, mk_285 H, mk_286 H, mk_287 H, mk_288 H, mk_289 H, mr_1 H, mr_11 H, mr_12 H, mr_13 H, mr_14 H, mr_15 H, mr_16 H, mr_17 H, mr_18 H, mr_19 H, mr_24 H, mr_25 H, mt_k, mt_f, f5, e7, ↓if_true, if_true, g, ↓if_neg z_1, if_neg z_1, rX_0]
      rfl
  · have e7 : ¬ F 7 = 2 := fun q => c ((ms_k2 M).mp q)
    rw [decide_eq_false c, Bool.and_false, b2i_0]
    rw [dM_of (Nat.le_of_ble_eq_true rfl)]
    simp -implicitDefEqProofs only [D_358_0, k_358_0, D_358_28, k_358_28, D_358_29, k_358_29, R_358, v_aload_n, g_getfield, sv_i, rf_s, g_getfieldS, g_if_ne, g_iconst, g_icmp_ne, g_ldc, v_callV2, aft_v, aft_n, g_goto, g_ireturn, entL, getL, setL, kL_i, kL_r, isI_s, isR_s, isJ_s, gV_s, iV_i, cs0, cs1, cs2, cs3, cs4, dn_nil, kd_si, kd_sl, kd_sw, mr_si, mr_sl, mr_sw, ml_si, ml_sw, mi_sl, mk_277 H, mk_278 H, mk_279 H, mk_280 H, mk_281 H, mk_282 H, mk_283 H, mk_284 H, mk_285 H, mk_286 H, mk_287 H, mk_288 H, mk_289 H, mr_1 H, mr_11 H, mr_12 H, mr_13 H, mr_14 H, mr_15 H, mr_16 H, mr_17 H, mr_18 H, mr_19 H, mr_24 H, mr_25 H, mt_k, mt_f, f5, ↓if_true, if_true, ↓if_neg e7, if_neg e7, rX_0]
theorem cmp_0 {x y : Int64} : lg_cmp x y = 0 ↔ x = y := by
  unfold lg_cmp
  by_cases c : x = y
  · subst c
    rw [if_neg (fun q => Int64.lt_irrefl q), if_pos rfl]
    exact ⟨fun _ => rfl, fun _ => rfl⟩
  · refine ⟨fun q => ?_, fun q => absurd q c⟩
    by_cases g : x > y
    · rw [if_pos g] at q
      exact absurd q (by decide)
    · rw [if_neg g, if_neg c] at q
      exact absurd q (by decide)
theorem R_359 : PG.2.1 359 = (some .int) := rfl
theorem m_359 (H : MO h) {ns : Nat} (h4 : ns ≤ 4) (f7 : h.mi 280 7 = Int32.ofNat ns) : dM PG 359 [.ref 277] (h.mt F w) = some (.inl (some (.int (oI (fnd (fun k => decide (h.ml 282 k = w)) ns 0)))), h.mt F w) := by
  have l2 : (h.mt F w).ml 282 = h.ml 282 := by
    show zu2 h.ml 277 10 w 282 = h.ml 282
    exact z2_o (by decide)
  rw [dM_of (Nat.le_of_ble_eq_true rfl)]
  simp -implicitDefEqProofs only [D_359_0, k_359_0, g_iconst, g_istore_n, entL, getL, setL, kL_i, kL_r, isI_s, isR_s, isJ_s, gV_s, iV_i, cs0, cs1, cs2, cs3, cs4, dn_nil, kd_si, kd_sl, kd_sw, mr_si, mr_sl, mr_sw, ml_si, ml_sw, mi_sl, mk_277 H, mk_278 H, mk_279 H, mk_280 H, mk_281 H, mk_282 H, mk_283 H, mk_284 H, mk_285 H, mk_286 H, mk_287 H, mk_288 H, mk_289 H, mr_1 H, mr_11 H, mr_12 H, mr_13 H, mr_14 H, mr_15 H, mr_16 H, mr_17 H, mr_18 H, mr_19 H, mr_24 H, mr_25 H, mt_k]
  have g := lf (P := PG) (y := 359) (pc := 2) (n := ns) (p := fun k => decide (h.ml 282 k = w)) (h := h.mt F w) (L := fun i tl => some (.ref 277) :: some (.int (Int32.ofNat i)) :: tl) (r := fun o => some (.inl (some (.int (oI o))), h.mt F w)) (by
    intro k tl hk ck
    refine ⟨tl, ?_⟩
    have c := of_decide_eq_false ck
    have e : ¬ Int32.ofNat (ns) ≤ Int32.ofNat (k) := by rw [i32_le (by omega) (by omega)]; omega
    have s1 : Int32.ofNat (k) + 1 = Int32.ofNat (k + 1) := i32_add (b := 1)
    have b_1 : inb (Int32.ofNat (k)) 4 = true := inb_nat (by omega) (by decide)
    have n_1 : (Int32.ofNat (k)).toNatClampNeg = k := i32_nat (by omega)
    have c2 : ¬ lg_cmp (h.ml 282 k) w = 0 := fun q => c (cmp_0.mp q)
    rw [D_359_2]
    simp -implicitDefEqProofs only [D_359_0, k_359_0, k_359_2, D_359_29, k_359_29, D_359_35, k_359_35, R_359, g_iconst, g_istore_n, v_iload_n, v_aload_n, g_getfield, sv_a, rf_s, g_getfieldS, g_bipush, v_iaload, inI_0, g_icmp_ge, v_laload, inJ_0, sv_j, g_lcmp, g_if_ne, g_ireturn, v_iinc, g_goto, entL, getL, setL, kL_i, kL_r, isI_s, isR_s, isJ_s, gV_s, iV_i, cs0, cs1, cs2, cs3, cs4, dn_nil, kd_si, kd_sl, kd_sw, mr_si, mr_sl, mr_sw, ml_si, ml_sw, mi_sl, mk_277 H, mk_278 H, mk_279 H, mk_280 H, mk_281 H, mk_282 H, mk_283 H, mk_284 H, mk_285 H, mk_286 H, mk_287 H, mk_288 H, mk_289 H, mr_1 H, mr_11 H, mr_12 H, mr_13 H, mr_14 H, mr_15 H, mr_16 H, mr_17 H, mr_18 H, mr_19 H, mr_24 H, mr_25 H, mt_k, mt_r, mt_o (show (280 : Nat) ≠ 277 by decide), ip_0, ip_1, ip_2, ip_3, ip_4, ip_5, ip_6, ip_7, ip_8, ip_9, ip_10, ip_11, ip_12, ip_13, ip_14, ip_15, ip_16, ip_17, ip_18, ip_19, ip_20, ip_21, ip_22, ip_23, ip_24, ip_25, ix_0, ix_1, ix_2, ix_3, ix_4, ix_5, ix_6, ix_7, ix_8, ix_9, ix_10, ix_11, ix_12, ix_13, ix_14, ix_15, ix_16, ix_17, ix_18, ix_19, ix_20, ix_21, ix_22, ix_23, ix_24, ix_25, f7, ↓if_neg e, if_neg e, b_1, n_1, l2, mt_w, ↓if_neg c2, if_neg c2, s1]) (by
    intro k tl hk ck
    have c := of_decide_eq_true ck
    have e : ¬ Int32.ofNat (ns) ≤ Int32.ofNat (k) := by rw [i32_le (by omega) (by omega)]; omega
    have b_1 : inb (Int32.ofNat (k)) 4 = true := inb_nat (by omega) (by decide)
    have n_1 : (Int32.ofNat (k)).toNatClampNeg = k := i32_nat (by omega)
    have c2 : lg_cmp (h.ml 282 k) w = 0 := cmp_0.mpr c
    rw [D_359_2]
    simp -implicitDefEqProofs only [D_359_0, k_359_0, k_359_2, D_359_29, k_359_29, D_359_35, k_359_35, R_359, g_iconst, g_istore_n, v_iload_n, v_aload_n, g_getfield, sv_a, rf_s, g_getfieldS, g_bipush, v_iaload, inI_0, g_icmp_ge, v_laload, inJ_0, sv_j, g_lcmp, g_if_ne, g_ireturn, v_iinc, g_goto, entL, getL, setL, kL_i, kL_r, isI_s, isR_s, isJ_s, gV_s, iV_i, cs0, cs1, cs2, cs3, cs4, dn_nil, kd_si, kd_sl, kd_sw, mr_si, mr_sl, mr_sw, ml_si, ml_sw, mi_sl, mk_277 H, mk_278 H, mk_279 H, mk_280 H, mk_281 H, mk_282 H, mk_283 H, mk_284 H, mk_285 H, mk_286 H, mk_287 H, mk_288 H, mk_289 H, mr_1 H, mr_11 H, mr_12 H, mr_13 H, mr_14 H, mr_15 H, mr_16 H, mr_17 H, mr_18 H, mr_19 H, mr_24 H, mr_25 H, mt_k, mt_r, mt_o (show (280 : Nat) ≠ 277 by decide), ip_0, ip_1, ip_2, ip_3, ip_4, ip_5, ip_6, ip_7, ip_8, ip_9, ip_10, ip_11, ip_12, ip_13, ip_14, ip_15, ip_16, ip_17, ip_18, ip_19, ip_20, ip_21, ip_22, ip_23, ip_24, ip_25, ix_0, ix_1, ix_2, ix_3, ix_4, ix_5, ix_6, ix_7, ix_8, ix_9, ix_10, ix_11, ix_12, ix_13, ix_14, ix_15, ix_16, ix_17, ix_18, ix_19, ix_20, ix_21, ix_22, ix_23, ix_24, ix_25, f7, ↓if_neg e, if_neg e, b_1, n_1, l2, mt_w, ↓if_pos c2, if_pos c2, retX_int]
    rfl) (by
    intro tl
    have e : Int32.ofNat (ns) ≤ Int32.ofNat (ns) := by rw [i32_le (by omega) (by omega)]; omega
    rw [D_359_2]
    simp -implicitDefEqProofs only [D_359_0, k_359_0, k_359_2, D_359_29, k_359_29, D_359_35, k_359_35, R_359, g_iconst, g_istore_n, v_iload_n, v_aload_n, g_getfield, sv_a, rf_s, g_getfieldS, g_bipush, v_iaload, inI_0, g_icmp_ge, v_laload, inJ_0, sv_j, g_lcmp, g_if_ne, g_ireturn, v_iinc, g_goto, entL, getL, setL, kL_i, kL_r, isI_s, isR_s, isJ_s, gV_s, iV_i, cs0, cs1, cs2, cs3, cs4, dn_nil, kd_si, kd_sl, kd_sw, mr_si, mr_sl, mr_sw, ml_si, ml_sw, mi_sl, mk_277 H, mk_278 H, mk_279 H, mk_280 H, mk_281 H, mk_282 H, mk_283 H, mk_284 H, mk_285 H, mk_286 H, mk_287 H, mk_288 H, mk_289 H, mr_1 H, mr_11 H, mr_12 H, mr_13 H, mr_14 H, mr_15 H, mr_16 H, mr_17 H, mr_18 H, mr_19 H, mr_24 H, mr_25 H, mt_k, mt_r, mt_o (show (280 : Nat) ≠ 277 by decide), ip_0, ip_1, ip_2, ip_3, ip_4, ip_5, ip_6, ip_7, ip_8, ip_9, ip_10, ip_11, ip_12, ip_13, ip_14, ip_15, ip_16, ip_17, ip_18, ip_19, ip_20, ip_21, ip_22, ip_23, ip_24, ip_25, ix_0, ix_1, ix_2, ix_3, ix_4, ix_5, ix_6, ix_7, ix_8, ix_9, ix_10, ix_11, ix_12, ix_13, ix_14, ix_15, ix_16, ix_17, ix_18, ix_19, ix_20, ix_21, ix_22, ix_23, ix_24, ix_25, f7, ↓if_pos e, if_pos e, retX_int]
    rfl) ns 0 [] (by omega)
  exact g
end MPB
