-- ===== the model's parser: item lines =====
def LI (i : Nat) (r f : Int64) (m : Int32) (tl : Lc) : Lc := some (.ref 277) :: some (.int (Int32.ofNat i)) :: some (.long r) :: none :: some (.long f) :: none :: some (.int m) :: tl
section IT
variable (T : Nat → Nat) (n s : Nat) (t : Tok)
def im0 : PE Tok := if 60 ≤ s then .inl (5, t.1) else .inr t
def im1 : PE Tok := pB (im0 s t) fun t => .inr (tok T n t.2.1)
def im2 : PE (Nat × Tok) := pB (im1 T n s t) (pNu T n 0 20000)
def im3 : PE (Nat × Tok) := pB (sdE (im2 T n s t)) (pNu T n 1 9999)
end IT
theorem pIt_x {T : Nat → Nat} {n : Nat} {q : Ps} {t : Tok} : pIt T n q t = pB (sdE (im3 T n q.ni t)) fun t3 => pB (pSl T n 2 ((vlE 0 (im2 T n q.ni t), vlE 1 (im3 T n q.ni t)), t3)) fun b => pB (pVl T n q.nm q.ns 5 ((0, fun _ => 0), b.2)) fun v =>
  .inr ((q.pl, itF q.dr q.ni (wfF (Int32.ofNat b.1.1) (Int32.ofNat b.1.2) (q.pl 0)) v.1.1 v.1.2, q.nm, q.ic, q.st, q.ns, q.ni + 1), v.2) := by
  unfold pIt im3 im2 im1 im0 pSm
  by_cases c : 60 ≤ q.ni
  · rw [if_pos c, if_pos c]
    rfl
  · rw [if_neg c, if_neg c]
    simp only [pB_r]
    cases pNu T n 0 20000 (tok T n t.2.1) with
    | inl e => rfl
    | inr a0 =>
      simp only [pB_r, sd_r, vl_r]
      cases pNu T n 1 9999 a0.2 with
      | inl e => rfl
      | inr a1 =>
        simp only [pB_r, sd_r, vl_r, Nat.zero_add]
theorem it_60 {T : Nat → Nat} {n s : Nat} {t t' : Tok} (e : sdE (im3 T n s t) = .inr t') : s < 60 := by
  by_cases c : 60 ≤ s
  · unfold im3 im2 im1 im0 at e
    rw [if_pos c] at e
    cases e
  · omega
/-- a name that is one -/
def nmY (T : Nat → Nat) (nm : Nat → Nat × (Nat → Nat)) (ns : Nat) (t : Tok) : PE Tok := if pNa T t = true then (match pKi T nm ns t with
  | some _ => .inr t
  | none => .inl (3, t.1)) else .inl (1, t.1)
/-- a draft's row with an item's votes -/
def VD (D0 : Nat → Int32) (i : Nat) (f D : Nat → Int32) : Prop := (∀ k, k < 4 → D (368 + 4 * i + k) = f k) ∧ ∀ j, (j < 368 + 4 * i ∨ 372 + 4 * i ≤ j) → D j = D0 j
section MPD
variable {h : Mm} {n : Nat} {T : Nat → Nat} {F : Nat → Int32} {w : Int64} {N : Nat → Int64} {P D : Nat → Int32} {t : Tok} {q : Ps} {x : PE Tok} {i : Nat} {r f : Int64} {m : Int32} {tl : Lc}
theorem R_337 : PG.2.1 337 = none := rfl
theorem x_337c (H : MO h) {e : Nat × Nat} (M : MS F w n T (.inl e)) : dB PG 337 106 (LI i r f m tl) [] ((h.mb N P D).mt F w) = some (.inl none, (h.mb N P D).mt F w) := by
  have n5 := ms_5 M
  have g := m_333e (h := h.mb N P D) (p := 38) (w := w) H n5
  unfold LI
  rw [D_337_106]
  simp -implicitDefEqProofs only [k_337_0, k_337_19, k_337_47, k_337_67, k_337_103, k_337_106, k_337_126, k_337_142, k_337_159, k_337_180, D_337_206, k_337_206, k_337_214, R_337, v_aload_n, g_getfield, sv_a, rf_s, g_getfieldS, g_bipush, v_iaload, inI_0, g_istore_n, v_iload_n, g_icmp_ne, g_iconst, v_callV2, aft_v, aft_n, v_callV1, g_sipush, v_callV3, g_i2l, g_lstore_n, g_lstore, g_istore, g_ldc, g_if_eq, v_iload, v_lload_n, g_ladd, v_lload, v_iinc, g_goto, g_if_ne, sv_i, g_if_le, g_return, g_imul, g_iadd, g_dup2, v_iastore, wrI_0, v_callS3, entL, getL, setL, kL_i, kL_r, isI_s, isR_s, isJ_s, gV_s, iV_i, cs0, cs1, cs2, cs3, cs4, dn_nil, kd_si, kd_sl, kd_sw, mr_si, mr_sl, mr_sw, ml_si, ml_sw, mi_sl, mk_277 H, mk_278 H, mk_279 H, mk_280 H, mk_281 H, mk_282 H, mk_283 H, mk_284 H, mk_285 H, mk_286 H, mk_287 H, mk_288 H, mk_289 H, mr_1 H, mr_11 H, mr_12 H, mr_13 H, mr_14 H, mr_15 H, mr_16 H, mr_17 H, mr_18 H, mr_19 H, mr_24 H, mr_25 H, mt_k, mb_k, mt_f, g, ↓if_true, if_true, ↓if_neg n5, if_neg n5]
theorem x_337b (H : MO h) {e : Nat × Nat} (M : MS F w n T (.inl e)) : dB PG 337 47 (LI i r f m []) [] ((h.mb N P D).mt F w) = some (.inl none, (h.mb N P D).mt F w) := by
  have n5 := ms_5 M
  have g := m_333e (h := h.mb N P D) (p := 36) (w := w) H n5
  have e := x_337c (N := N) (P := P) (D := D) (i := i) (r := r) (f := f) (m := 0) (tl := []) H M
  unfold LI at e ⊢
  rw [D_337_47]
  simp -implicitDefEqProofs only [k_337_0, k_337_19, k_337_47, k_337_67, D_337_103, k_337_103, k_337_106, k_337_126, k_337_142, k_337_159, k_337_180, k_337_206, k_337_214, R_337, v_aload_n, g_getfield, sv_a, rf_s, g_getfieldS, g_bipush, v_iaload, inI_0, g_istore_n, v_iload_n, g_icmp_ne, g_iconst, v_callV2, aft_v, aft_n, v_callV1, g_sipush, v_callV3, g_i2l, g_lstore_n, g_lstore, g_istore, g_ldc, g_if_eq, v_iload, v_lload_n, g_ladd, v_lload, v_iinc, g_goto, g_if_ne, sv_i, g_if_le, g_return, g_imul, g_iadd, g_dup2, v_iastore, wrI_0, v_callS3, entL, getL, setL, kL_i, kL_r, isI_s, isR_s, isJ_s, gV_s, iV_i, cs0, cs1, cs2, cs3, cs4, dn_nil, kd_si, kd_sl, kd_sw, mr_si, mr_sl, mr_sw, ml_si, ml_sw, mi_sl, mk_277 H, mk_278 H, mk_279 H, mk_280 H, mk_281 H, mk_282 H, mk_283 H, mk_284 H, mk_285 H, mk_286 H, mk_287 H, mk_288 H, mk_289 H, mr_1 H, mr_11 H, mr_12 H, mr_13 H, mr_14 H, mr_15 H, mr_16 H, mr_17 H, mr_18 H, mr_19 H, mr_24 H, mr_25 H, mt_k, mb_k, mt_f, g, ↓if_true, if_true, kL_n]
  exact e
def okSA (h : Mm) (n : Nat) (T : Nat → Nat) (N : Nat → Int64) (P D : Nat → Int32) (i : Nat) (F : Nat → Int32) (x : PE ((Nat × Nat) × Tok)) (o : Option Rs) : Prop := match x with
  | .inl e => ∃ F' w', o = some (.inl none, (h.mb N P D).mt F' w') ∧ MS F' w' n T (.inl e) ∧ keepF F F'
  | .inr a => ∃ F' w' m, o = dB PG 337 103 (LI i (Int64.ofNat a.1.1) (Int64.ofNat a.1.2) m []) [] ((h.mb N P D).mt F' w') ∧ MS F' w' n T (.inr a.2) ∧ keepF F F' ∧ a.1.1 ≤ 60000 ∧ 1 ≤ a.1.2 ∧ a.1.2 ≤ 29997
theorem okSA_k {F F1 : Nat → Int32} {x : PE ((Nat × Nat) × Tok)} {o : Option Rs} (k : keepF F F1) (A : okSA h n T N P D i F1 x o) : okSA h n T N P D i F x o := by
  cases x with
  | inl e =>
    obtain ⟨a, b, c, d, e⟩ := A
    exact ⟨a, b, c, d, k.tr e⟩
  | inr y =>
    obtain ⟨a, b, c, d, e, f, g⟩ := A
    exact ⟨a, b, c, d, e, k.tr f, g⟩
theorem l_337a (H : MO h) (B : MTO h n T) (W : WMD h) : ∀ (k s r f : Nat) (t : Tok) (F : Nat → Int32) (w : Int64), s + k = 3 → 1 ≤ s → r ≤ 20000 * s → 1 ≤ f → f ≤ 9999 * s → MS F w n T (.inr t) → okSA h n T N P D i F (pSl T n k ((r, f), t)) (dB PG 337 47 (LI i (Int64.ofNat r) (Int64.ofNat f) (Int32.ofNat s) []) [] ((h.mb N P D).mt F w)) := by
  intro k
  induction k with
  | zero =>
    intro s r f t F w hs h1 hr hf hf2 M
    have g := s_333 (h := h.mb N P D) (p := 36) (i := 13) H (mb_to B) (mb_wm W) M rfl (by decide)
    obtain rfl : s = 3 := by omega
    show okSA h n T N P D i F (if isK T t 13 = true then .inl (5, t.1) else .inr ((r, f), t)) _
    cases c : isK T t 13 with
    | true =>
      rw [c, b2i_1] at g
      rw [if_pos rfl]
      have g2 := m_297 (h := h.mb N P D) (x := 5) (w := w) H M.2.2.2.1
      have M1 := ms_rep (w' := w) (k := 5) (x := 5) M (by decide) (by decide)
      have n5 := ms_5 M1
      have g3 := m_294e (h := h.mb N P D) (w := w) H n5
      obtain ⟨F2, w2, g4, M2, k2⟩ := s_357 (h := h.mb N P D) (lo := 0) (hi := 20000) H (mb_to B) M1 (by decide) (by decide)
      obtain ⟨F3, w3, g5, M3, k3⟩ := s_357 (h := h.mb N P D) (lo := 1) (hi := 9999) H (mb_to B) M2 (by decide) (by decide)
      have M3 : MS F3 w3 n T (.inl (5, t.1)) := M3
      have g4 : dM PG 357 [.ref 277, .int 0, .int 20000] ((h.mb N P D).mt (zu (zu F 5 5) 6 (F 8)) w) = some (.inl (some (.int 0)), (h.mb N P D).mt F2 w2) := g4
      have g5 : dM PG 357 [.ref 277, .int 1, .int 9999] ((h.mb N P D).mt F2 w2) = some (.inl (some (.int 1)), (h.mb N P D).mt F3 w3) := g5
      have g3 : dM PG 294 [.ref 277] ((h.mb N P D).mt (zu (zu F 5 5) 6 (F 8)) w) = some (.inl none, (h.mb N P D).mt (zu (zu F 5 5) 6 (F 8)) w) := g3
      have e := fun r f m => x_337b (N := N) (P := P) (D := D) (i := i) (r := r) (f := f) (m := m) H M3
      refine ⟨F3, w3, ?_, M3, (kf_rep.tr k2).tr k3⟩
      have e3 : (Int32.ofNat 3 : Int32) = 3 := rfl
      unfold LI at e ⊢
      rw [D_337_47]
      simp -implicitDefEqProofs only [k_337_0, k_337_19, k_337_47, D_337_67, k_337_67, k_337_103, k_337_106, k_337_126, k_337_142, k_337_159, k_337_180, k_337_206, k_337_214, R_337, v_aload_n, g_getfield, sv_a, rf_s, g_getfieldS, g_bipush, v_iaload, inI_0, g_istore_n, v_iload_n, g_icmp_ne, g_iconst, v_callV2, aft_v, aft_n, v_callV1, g_sipush, v_callV3, g_i2l, g_lstore_n, g_lstore, g_istore, g_ldc, g_if_eq, v_iload, v_lload_n, g_ladd, v_lload, v_iinc, g_goto, g_if_ne, sv_i, g_if_le, g_return, g_imul, g_iadd, g_dup2, v_iastore, wrI_0, v_callS3, entL, getL, setL, kL_i, kL_r, isI_s, isR_s, isJ_s, gV_s, iV_i, cs0, cs1, cs2, cs3, cs4, dn_nil, kd_si, kd_sl, kd_sw, mr_si, mr_sl, mr_sw, ml_si, ml_sw, mi_sl, mk_277 H, mk_278 H, mk_279 H, mk_280 H, mk_281 H, mk_282 H, mk_283 H, mk_284 H, mk_285 H, mk_286 H, mk_287 H, mk_288 H, mk_289 H, mr_1 H, mr_11 H, mr_12 H, mr_13 H, mr_14 H, mr_15 H, mr_16 H, mr_17 H, mr_18 H, mr_19 H, mr_24 H, mr_25 H, mt_k, mb_k, mt_f, g, ↓if_neg z_1, if_neg z_1, e3, ↓if_true, if_true, g2, g3, g4, g5, setL2, nonL, kL_n, kL_j, e]
    | false =>
      rw [c, b2i_0] at g
      rw [if_neg Bool.false_ne_true]
      refine ⟨F, w, Int32.ofNat 3, ?_, M, keepF.rf, by omega, by omega, by omega⟩
      unfold LI
      rw [D_337_47]
      simp -implicitDefEqProofs only [k_337_0, k_337_19, k_337_47, k_337_67, k_337_103, k_337_106, k_337_126, k_337_142, k_337_159, k_337_180, k_337_206, k_337_214, R_337, v_aload_n, g_getfield, sv_a, rf_s, g_getfieldS, g_bipush, v_iaload, inI_0, g_istore_n, v_iload_n, g_icmp_ne, g_iconst, v_callV2, aft_v, aft_n, v_callV1, g_sipush, v_callV3, g_i2l, g_lstore_n, g_lstore, g_istore, g_ldc, g_if_eq, v_iload, v_lload_n, g_ladd, v_lload, v_iinc, g_goto, g_if_ne, sv_i, g_if_le, g_return, g_imul, g_iadd, g_dup2, v_iastore, wrI_0, v_callS3, entL, getL, setL, kL_i, kL_r, isI_s, isR_s, isJ_s, gV_s, iV_i, cs0, cs1, cs2, cs3, cs4, dn_nil, kd_si, kd_sl, kd_sw, mr_si, mr_sl, mr_sw, ml_si, ml_sw, mi_sl, mk_277 H, mk_278 H, mk_279 H, mk_280 H, mk_281 H, mk_282 H, mk_283 H, mk_284 H, mk_285 H, mk_286 H, mk_287 H, mk_288 H, mk_289 H, mr_1 H, mr_11 H, mr_12 H, mr_13 H, mr_14 H, mr_15 H, mr_16 H, mr_17 H, mr_18 H, mr_19 H, mr_24 H, mr_25 H, mt_k, mb_k, mt_f, g, ↓if_true, if_true]
  | succ k ih =>
    intro s r f t F w hs h1 hr hf hf2 M
    have g := s_333 (h := h.mb N P D) (p := 36) (i := 13) H (mb_to B) (mb_wm W) M rfl (by decide)
    show okSA h n T N P D i F (if isK T t 13 = true then pB (pSm T n (r, f) (tok T n t.2.1)) (pSl T n k) else .inr ((r, f), t)) _
    cases c : isK T t 13 with
    | true =>
      rw [c, b2i_1] at g
      rw [if_pos rfl]
      have s3 : ¬ Int32.ofNat s = 3 := by
        show ¬ Int32.ofNat s = Int32.ofNat 3
        exact i32_ne (by omega) (by omega) (by omega)
      obtain ⟨F1, w1, g1, M1, k1⟩ := s_294 (h := h.mb N P D) H (mb_to B) M
      obtain ⟨F2, w2, g4, M2, k2⟩ := s_357 (h := h.mb N P D) (lo := 0) (hi := 20000) H (mb_to B) M1 (by decide) (by decide)
      obtain ⟨F3, w3, g5, M3, k3⟩ := s_357 (h := h.mb N P D) (lo := 1) (hi := 9999) H (mb_to B) M2 (by decide) (by decide)
      rw [pB_r] at g4 M2 g5 M3
      have l4 : vlE 0 (pNu T n 0 20000 (tok T n t.2.1)) ≤ 20000 := (vl_le (x := .inr (tok T n t.2.1)) (by decide)).2
      have l5 := vl_le (T := T) (n := n) (x := sdE (pNu T n 0 20000 (tok T n t.2.1))) (lo := 1) (hi := 9999) (by decide)
      generalize hv : vlE 0 (pNu T n 0 20000 (tok T n t.2.1)) = v at g4 l4
      generalize hu : vlE 1 (pB (sdE (pNu T n 0 20000 (tok T n t.2.1))) (pNu T n 1 9999)) = u at g5 l5
      have g4 : dM PG 357 [.ref 277, .int 0, .int 20000] ((h.mb N P D).mt F1 w1) = some (.inl (some (.int (Int32.ofNat v))), (h.mb N P D).mt F2 w2) := g4
      have g5 : dM PG 357 [.ref 277, .int 1, .int 9999] ((h.mb N P D).mt F2 w2) = some (.inl (some (.int (Int32.ofNat u))), (h.mb N P D).mt F3 w3) := g5
      have i4 : (Int32.ofNat v).toInt64 = Int64.ofNat v := i64_of (by omega)
      have i5 : (Int32.ofNat u).toInt64 = Int64.ofNat u := i64_of (by omega)
      have a4 : Int64.ofNat r + Int64.ofNat v = Int64.ofNat (r + v) := (Int64.ofNat_add r v).symm
      have a5 : Int64.ofNat f + Int64.ofNat u = Int64.ofNat (f + u) := (Int64.ofNat_add f u).symm
      have s1 : Int32.ofNat (s) + 1 = Int32.ofNat (s + 1) := i32_add (b := 1)
      have ee : dB PG 337 47 (LI i (Int64.ofNat r) (Int64.ofNat f) (Int32.ofNat s) []) [] ((h.mb N P D).mt F w) = dB PG 337 47 (LI i (Int64.ofNat (r + v)) (Int64.ofNat (f + u)) (Int32.ofNat (s + 1)) []) [] ((h.mb N P D).mt F3 w3) := by
        unfold LI
        rw [D_337_47]
        simp -implicitDefEqProofs only [k_337_0, k_337_19, k_337_47, D_337_67, k_337_67, k_337_103, k_337_106, k_337_126, k_337_142, k_337_159, k_337_180, k_337_206, k_337_214, R_337, v_aload_n, g_getfield, sv_a, rf_s, g_getfieldS, g_bipush, v_iaload, inI_0, g_istore_n, v_iload_n, g_icmp_ne, g_iconst, v_callV2, aft_v, aft_n, v_callV1, g_sipush, v_callV3, g_i2l, g_lstore_n, g_lstore, g_istore, g_ldc, g_if_eq, v_iload, v_lload_n, g_ladd, v_lload, v_iinc, g_goto, g_if_ne, sv_i, g_if_le, g_return, g_imul, g_iadd, g_dup2, v_iastore, wrI_0, v_callS3, entL, getL, setL, kL_i, kL_r, isI_s, isR_s, isJ_s, gV_s, iV_i, cs0, cs1, cs2, cs3, cs4, dn_nil, kd_si, kd_sl, kd_sw, mr_si, mr_sl, mr_sw, ml_si, ml_sw, mi_sl, mk_277 H, mk_278 H, mk_279 H, mk_280 H, mk_281 H, mk_282 H, mk_283 H, mk_284 H, mk_285 H, mk_286 H, mk_287 H, mk_288 H, mk_289 H, mr_1 H, mr_11 H, mr_12 H, mr_13 H, mr_14 H, mr_15 H, mr_16 H, mr_17 H, mr_18 H, mr_19 H, mr_24 H, mr_25 H, mt_k, mb_k, mt_f, g, ↓if_neg z_1, if_neg z_1, ↓if_neg s3, if_neg s3, g1, g4, g5, i4, i5, a4, a5, s1, setL2, nonL, kL_n, kL_j]
      have kk : keepF F F3 := (k1.tr k2).tr k3
      rw [ee]
      have es : pSm T n (r, f) (tok T n t.2.1) = pB (pB (sdE (pNu T n 0 20000 (tok T n t.2.1))) (pNu T n 1 9999)) fun b => .inr ((r + v, f + b.1), b.2) := by
        unfold pSm
        rw [← hv]
        cases pNu T n 0 20000 (tok T n t.2.1) with
        | inl e => rfl
        | inr a => rfl
      rw [es]
      cases ey : pB (sdE (pNu T n 0 20000 (tok T n t.2.1))) (pNu T n 1 9999) with
      | inl e =>
        rw [ey] at M3
        have M3 : MS F3 w3 n T (.inl e) := M3
        exact ⟨F3, w3, x_337b H M3, M3, kk⟩
      | inr b =>
        rw [ey] at M3 hu
        have hu : b.1 = u := hu
        rw [pB_r, pB_r, hu]
        exact okSA_k kk (ih (s + 1) (r + v) (f + u) b.2 F3 w3 (by omega) (by omega) (by omega) (by omega) (by omega) M3)
    | false =>
      rw [c, b2i_0] at g
      rw [if_neg Bool.false_ne_true]
      refine ⟨F, w, Int32.ofNat s, ?_, M, keepF.rf, ?_, hf, ?_⟩
      · unfold LI
        rw [D_337_47]
        simp -implicitDefEqProofs only [k_337_0, k_337_19, k_337_47, k_337_67, k_337_103, k_337_106, k_337_126, k_337_142, k_337_159, k_337_180, k_337_206, k_337_214, R_337, v_aload_n, g_getfield, sv_a, rf_s, g_getfieldS, g_bipush, v_iaload, inI_0, g_istore_n, v_iload_n, g_icmp_ne, g_iconst, v_callV2, aft_v, aft_n, v_callV1, g_sipush, v_callV3, g_i2l, g_lstore_n, g_lstore, g_istore, g_ldc, g_if_eq, v_iload, v_lload_n, g_ladd, v_lload, v_iinc, g_goto, g_if_ne, sv_i, g_if_le, g_return, g_imul, g_iadd, g_dup2, v_iastore, wrI_0, v_callS3, entL, getL, setL, kL_i, kL_r, isI_s, isR_s, isJ_s, gV_s, iV_i, cs0, cs1, cs2, cs3, cs4, dn_nil, kd_si, kd_sl, kd_sw, mr_si, mr_sl, mr_sw, ml_si, ml_sw, mi_sl, mk_277 H, mk_278 H, mk_279 H, mk_280 H, mk_281 H, mk_282 H, mk_283 H, mk_284 H, mk_285 H, mk_286 H, mk_287 H, mk_288 H, mk_289 H, mr_1 H, mr_11 H, mr_12 H, mr_13 H, mr_14 H, mr_15 H, mr_16 H, mr_17 H, mr_18 H, mr_19 H, mr_24 H, mr_25 H, mt_k, mb_k, mt_f, g, ↓if_true, if_true]
      · show r ≤ 60000
        omega
      · show f ≤ 29997
        omega
/-- a vote's name -/
theorem e_337v (H : MO h) (B : MTO h n T) (W : WMD h) {ns : Nat} {nm : Nat → Nat × (Nat → Nat)} (h4 : ns ≤ 4) (p7 : P 7 = Int32.ofNat ns) (K : NMM N ns nm) (M : MS F w n T x) : ∃ F' w' kv, dB PG 337 126 (LI i r f m tl) [] ((h.mb N P D).mt F w) = dB PG 337 159 (LI i r f m (some (.int kv) :: tl.tail)) [] ((h.mb N P D).mt F' w') ∧ keepF F F' ∧ MS F' w' n T (pB (pB x fun t => .inr (tok T n t.2.1)) (nmY T nm ns)) ∧ ∀ t', pB (pB x fun t => .inr (tok T n t.2.1)) (nmY T nm ns) = .inr t' → ∃ k, pKi T nm ns t' = some k ∧ kv = Int32.ofNat k ∧ k < ns := by
  have g9 : ∀ F w, dM PG 359 [.ref 277] ((h.mb N P D).mt F w) = some (.inl (some (.int (oI (fnd (fun k => decide (N k = w)) ns 0)))), (h.mb N P D).mt F w) := fun F w => m_359 (h := h.mb N P D) H h4 p7
  have fl4 : ∀ w k, fnd (fun k => decide (N k = w)) ns 0 = some k → k < ns := fun w k e => by
    have := fnd_lt _ _ _ e
    omega
  cases x with
  | inl e =>
    have n5 := ms_5 M
    have g2 := m_294e (h := h.mb N P D) (w := w) H n5
    have g3 := s_358e (h := h.mb N P D) H M
    have g4 := m_297e (h := h.mb N P D) (x := 1) (w := w) H n5
    have g5 := m_297e (h := h.mb N P D) (x := 3) (w := w) H n5
    have g9' := g9 F w
    refine ⟨F, w, oI (fnd (fun k => decide (N k = w)) ns 0), ?_, keepF.rf, M, fun t' q => by cases q⟩
    unfold LI
    rw [D_337_126]
    by_cases co : oI (fnd (fun k => decide (N k = w)) ns 0) = -1
    · simp -implicitDefEqProofs only [k_337_0, k_337_19, k_337_47, k_337_67, k_337_103, k_337_106, k_337_126, D_337_142, k_337_142, k_337_159, k_337_180, k_337_206, k_337_214, R_337, v_aload_n, g_getfield, sv_a, rf_s, g_getfieldS, g_bipush, v_iaload, inI_0, g_istore_n, v_iload_n, g_icmp_ne, g_iconst, v_callV2, aft_v, aft_n, v_callV1, g_sipush, v_callV3, g_i2l, g_lstore_n, g_lstore, g_istore, g_ldc, g_if_eq, v_iload, v_lload_n, g_ladd, v_lload, v_iinc, g_goto, g_if_ne, sv_i, g_if_le, g_return, g_imul, g_iadd, g_dup2, v_iastore, wrI_0, v_callS3, entL, getL, setL, kL_i, kL_r, isI_s, isR_s, isJ_s, gV_s, iV_i, cs0, cs1, cs2, cs3, cs4, dn_nil, kd_si, kd_sl, kd_sw, mr_si, mr_sl, mr_sw, ml_si, ml_sw, mi_sl, mk_277 H, mk_278 H, mk_279 H, mk_280 H, mk_281 H, mk_282 H, mk_283 H, mk_284 H, mk_285 H, mk_286 H, mk_287 H, mk_288 H, mk_289 H, mr_1 H, mr_11 H, mr_12 H, mr_13 H, mr_14 H, mr_15 H, mr_16 H, mr_17 H, mr_18 H, mr_19 H, mr_24 H, mr_25 H, mt_k, mb_k, g2, g3, ↓if_true, if_true, g4, g9', setL_0, ↓if_pos co, if_pos co, g5]
    · simp -implicitDefEqProofs only [k_337_0, k_337_19, k_337_47, k_337_67, k_337_103, k_337_106, k_337_126, D_337_142, k_337_142, k_337_159, k_337_180, k_337_206, k_337_214, R_337, v_aload_n, g_getfield, sv_a, rf_s, g_getfieldS, g_bipush, v_iaload, inI_0, g_istore_n, v_iload_n, g_icmp_ne, g_iconst, v_callV2, aft_v, aft_n, v_callV1, g_sipush, v_callV3, g_i2l, g_lstore_n, g_lstore, g_istore, g_ldc, g_if_eq, v_iload, v_lload_n, g_ladd, v_lload, v_iinc, g_goto, g_if_ne, sv_i, g_if_le, g_return, g_imul, g_iadd, g_dup2, v_iastore, wrI_0, v_callS3, entL, getL, setL, kL_i, kL_r, isI_s, isR_s, isJ_s, gV_s, iV_i, cs0, cs1, cs2, cs3, cs4, dn_nil, kd_si, kd_sl, kd_sw, mr_si, mr_sl, mr_sw, ml_si, ml_sw, mi_sl, mk_277 H, mk_278 H, mk_279 H, mk_280 H, mk_281 H, mk_282 H, mk_283 H, mk_284 H, mk_285 H, mk_286 H, mk_287 H, mk_288 H, mk_289 H, mr_1 H, mr_11 H, mr_12 H, mr_13 H, mr_14 H, mr_15 H, mr_16 H, mr_17 H, mr_18 H, mr_19 H, mr_24 H, mr_25 H, mt_k, mb_k, g2, g3, ↓if_true, if_true, g4, g9', setL_0, ↓if_neg co, if_neg co]
  | inr t =>
    simp only [pB_r]
    obtain ⟨F1, w1, g1, M1, k1⟩ := s_294 (h := h.mb N P D) H (mb_to B) M
    have g2 := s_358 (h := h.mb N P D) H (mb_to B) (mb_wm W) M1
    unfold nmY
    cases cn : pNa T (tok T n t.2.1) with
    | false =>
      rw [cn, b2i_0] at g2
      rw [if_neg Bool.false_ne_true]
      have g3 := m_297 (h := h.mb N P D) (x := 1) (w := w1) H M1.2.2.2.1
      have M2 := ms_rep (w' := w1) (k := 1) (x := 1) M1 (by decide) (by decide)
      have g5 := m_297e (h := h.mb N P D) (x := 3) (w := w1) H (ms_5 M2)
      have g5 : dM PG 297 [.ref 277, .int 3] ((h.mb N P D).mt (zu (zu F1 5 1) 6 (F1 8)) w1) = some (.inl none, (h.mb N P D).mt (zu (zu F1 5 1) 6 (F1 8)) w1) := g5
      have g9' := g9 (zu (zu F1 5 1) 6 (F1 8)) w1
      refine ⟨zu (zu F1 5 1) 6 (F1 8), w1, oI (fnd (fun k => decide (N k = w1)) ns 0), ?_, k1.tr kf_rep, M2, fun t' q => by cases q⟩
      unfold LI
      rw [D_337_126]
      by_cases co : oI (fnd (fun k => decide (N k = w1)) ns 0) = -1
      · simp -implicitDefEqProofs only [k_337_0, k_337_19, k_337_47, k_337_67, k_337_103, k_337_106, k_337_126, D_337_142, k_337_142, k_337_159, k_337_180, k_337_206, k_337_214, R_337, v_aload_n, g_getfield, sv_a, rf_s, g_getfieldS, g_bipush, v_iaload, inI_0, g_istore_n, v_iload_n, g_icmp_ne, g_iconst, v_callV2, aft_v, aft_n, v_callV1, g_sipush, v_callV3, g_i2l, g_lstore_n, g_lstore, g_istore, g_ldc, g_if_eq, v_iload, v_lload_n, g_ladd, v_lload, v_iinc, g_goto, g_if_ne, sv_i, g_if_le, g_return, g_imul, g_iadd, g_dup2, v_iastore, wrI_0, v_callS3, entL, getL, setL, kL_i, kL_r, isI_s, isR_s, isJ_s, gV_s, iV_i, cs0, cs1, cs2, cs3, cs4, dn_nil, kd_si, kd_sl, kd_sw, mr_si, mr_sl, mr_sw, ml_si, ml_sw, mi_sl, mk_277 H, mk_278 H, mk_279 H, mk_280 H, mk_281 H, mk_282 H, mk_283 H, mk_284 H, mk_285 H, mk_286 H, mk_287 H, mk_288 H, mk_289 H, mr_1 H, mr_11 H, mr_12 H, mr_13 H, mr_14 H, mr_15 H, mr_16 H, mr_17 H, mr_18 H, mr_19 H, mr_24 H, mr_25 H, mt_k, mb_k, g1, g2, ↓if_true, if_true, g3, g9', setL_0, ↓if_pos co, if_pos co, g5]
      · simp -implicitDefEqProofs only [k_337_0, k_337_19, k_337_47, k_337_67, k_337_103, k_337_106, k_337_126, D_337_142, k_337_142, k_337_159, k_337_180, k_337_206, k_337_214, R_337, v_aload_n, g_getfield, sv_a, rf_s, g_getfieldS, g_bipush, v_iaload, inI_0, g_istore_n, v_iload_n, g_icmp_ne, g_iconst, v_callV2, aft_v, aft_n, v_callV1, g_sipush, v_callV3, g_i2l, g_lstore_n, g_lstore, g_istore, g_ldc, g_if_eq, v_iload, v_lload_n, g_ladd, v_lload, v_iinc, g_goto, g_if_ne, sv_i, g_if_le, g_return, g_imul, g_iadd, g_dup2, v_iastore, wrI_0, v_callS3, entL, getL, setL, kL_i, kL_r, isI_s, isR_s, isJ_s, gV_s, iV_i, cs0, cs1, cs2, cs3, cs4, dn_nil, kd_si, kd_sl, kd_sw, mr_si, mr_sl, mr_sw, ml_si, ml_sw, mi_sl, mk_277 H, mk_278 H, mk_279 H, mk_280 H, mk_281 H, mk_282 H, mk_283 H, mk_284 H, mk_285 H, mk_286 H, mk_287 H, mk_288 H, mk_289 H, mr_1 H, mr_11 H, mr_12 H, mr_13 H, mr_14 H, mr_15 H, mr_16 H, mr_17 H, mr_18 H, mr_19 H, mr_24 H, mr_25 H, mt_k, mb_k, g1, g2, ↓if_true, if_true, g3, g9', setL_0, ↓if_neg co, if_neg co]
    | true =>
      rw [cn, b2i_1] at g2
      rw [if_pos rfl]
      have en := nm_step (h := h.mb N P D) H (mb_to B) (mb_wm W) M1 cn K
      have g9' := g9 F1 w1
      cases ck : pKi T nm ns (tok T n t.2.1) with
      | some k =>
        have ek : fnd (fun k => decide (N k = w1)) ns 0 = some k := by rw [en, ck]
        have hk := fl4 w1 k ek
        rw [ek] at g9'
        have g9' : dM PG 359 [.ref 277] ((h.mb N P D).mt F1 w1) = some (.inl (some (.int (Int32.ofNat k))), (h.mb N P D).mt F1 w1) := g9'
        have co : ¬ Int32.ofNat k = -1 := fun z => by
          have := (oI_n (o := some k) h4 (fun j e => by cases e; exact hk)).mp z
          cases this
        refine ⟨F1, w1, Int32.ofNat k, ?_, k1, M1, fun t' e => ?_⟩
        · unfold LI
          rw [D_337_126]
          simp -implicitDefEqProofs only [k_337_0, k_337_19, k_337_47, k_337_67, k_337_103, k_337_106, k_337_126, D_337_142, k_337_142, k_337_159, k_337_180, k_337_206, k_337_214, R_337, v_aload_n, g_getfield, sv_a, rf_s, g_getfieldS, g_bipush, v_iaload, inI_0, g_istore_n, v_iload_n, g_icmp_ne, g_iconst, v_callV2, aft_v, aft_n, v_callV1, g_sipush, v_callV3, g_i2l, g_lstore_n, g_lstore, g_istore, g_ldc, g_if_eq, v_iload, v_lload_n, g_ladd, v_lload, v_iinc, g_goto, g_if_ne, sv_i, g_if_le, g_return, g_imul, g_iadd, g_dup2, v_iastore, wrI_0, v_callS3, entL, getL, setL, kL_i, kL_r, isI_s, isR_s, isJ_s, gV_s, iV_i, cs0, cs1, cs2, cs3, cs4, dn_nil, kd_si, kd_sl, kd_sw, mr_si, mr_sl, mr_sw, ml_si, ml_sw, mi_sl, mk_277 H, mk_278 H, mk_279 H, mk_280 H, mk_281 H, mk_282 H, mk_283 H, mk_284 H, mk_285 H, mk_286 H, mk_287 H, mk_288 H, mk_289 H, mr_1 H, mr_11 H, mr_12 H, mr_13 H, mr_14 H, mr_15 H, mr_16 H, mr_17 H, mr_18 H, mr_19 H, mr_24 H, mr_25 H, mt_k, mb_k, g1, g2, ↓if_neg z_1, if_neg z_1, g9', setL_0, ↓if_neg co, if_neg co]
        · have e : (Sum.inr (tok T n t.2.1) : PE Tok) = .inr t' := e
          cases e
          exact ⟨k, ck, rfl, hk⟩
      | none =>
        have ek : fnd (fun k => decide (N k = w1)) ns 0 = none := by rw [en, ck]
        rw [ek] at g9'
        have g9' : dM PG 359 [.ref 277] ((h.mb N P D).mt F1 w1) = some (.inl (some (.int (-1))), (h.mb N P D).mt F1 w1) := g9'
        have g3 := m_297 (h := h.mb N P D) (x := 3) (w := w1) H M1.2.2.2.1
        have M2 := ms_rep (w' := w1) (k := 3) (x := 3) M1 (by decide) (by decide)
        refine ⟨zu (zu F1 5 3) 6 (F1 8), w1, -1, ?_, k1.tr kf_rep, M2, fun t' q => by cases q⟩
        unfold LI
        rw [D_337_126]
        simp -implicitDefEqProofs only [k_337_0, k_337_19, k_337_47, k_337_67, k_337_103, k_337_106, k_337_126, D_337_142, k_337_142, k_337_159, k_337_180, k_337_206, k_337_214, R_337, v_aload_n, g_getfield, sv_a, rf_s, g_getfieldS, g_bipush, v_iaload, inI_0, g_istore_n, v_iload_n, g_icmp_ne, g_iconst, v_callV2, aft_v, aft_n, v_callV1, g_sipush, v_callV3, g_i2l, g_lstore_n, g_lstore, g_istore, g_ldc, g_if_eq, v_iload, v_lload_n, g_ladd, v_lload, v_iinc, g_goto, g_if_ne, sv_i, g_if_le, g_return, g_imul, g_iadd, g_dup2, v_iastore, wrI_0, v_callS3, entL, getL, setL, kL_i, kL_r, isI_s, isR_s, isJ_s, gV_s, iV_i, cs0, cs1, cs2, cs3, cs4, dn_nil, kd_si, kd_sl, kd_sw, mr_si, mr_sl, mr_sw, ml_si, ml_sw, mi_sl, mk_277 H, mk_278 H, mk_279 H, mk_280 H, mk_281 H, mk_282 H, mk_283 H, mk_284 H, mk_285 H, mk_286 H, mk_287 H, mk_288 H, mk_289 H, mr_1 H, mr_11 H, mr_12 H, mr_13 H, mr_14 H, mr_15 H, mr_16 H, mr_17 H, mr_18 H, mr_19 H, mr_24 H, mr_25 H, mt_k, mb_k, g1, g2, ↓if_neg z_1, if_neg z_1, g9', setL_0, ↓if_true, if_true, g3]
end MPD
