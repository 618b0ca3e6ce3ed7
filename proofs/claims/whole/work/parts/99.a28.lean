-- ===== the model's parser: votes, item lines, lines =====
def okB (h : Mm) (n : Nat) (T : Nat → Nat) (N : Nat → Int64) (P D0 : Nat → Int32) (i : Nat) (r f : Int64) (F : Nat → Int32) (x : PE ((Nat × (Nat → Int32)) × Tok)) (o : Option Rs) : Prop := match x with
  | .inl e => ∃ F' w' D', o = some (.inl none, (h.mb N P D').mt F' w') ∧ MS F' w' n T (.inl e) ∧ keepF F F' ∧ D' 9 = D0 9
  | .inr a => ∃ F' w' D' tl', o = dB PG 337 206 (LI i r f (Int32.ofNat a.1.1) tl') [] ((h.mb N P D').mt F' w') ∧ MS F' w' n T (.inr a.2) ∧ keepF F F' ∧ VD D0 i a.1.2 D'
section MPE
variable {h : Mm} {n : Nat} {T : Nat → Nat} {F : Nat → Int32} {w : Int64} {N : Nat → Int64} {P D D0 : Nat → Int32} {t : Tok} {q : Ps} {x : PE Tok} {i : Nat} {r f : Int64} {m : Int32} {tl : Lc}
theorem okB_k {F F1 : Nat → Int32} {x : PE ((Nat × (Nat → Int32)) × Tok)} {o : Option Rs} (k : keepF F F1) (A : okB h n T N P D0 i r f F1 x o) : okB h n T N P D0 i r f F x o := by
  cases x with
  | inl e =>
    obtain ⟨a, b, c, d, e, f, g⟩ := A
    exact ⟨a, b, c, d, e, k.tr f, g⟩
  | inr y =>
    obtain ⟨a, b, c, d, e, f, g, l⟩ := A
    exact ⟨a, b, c, d, e, f, k.tr g, l⟩
theorem m_357e (H : MO h) {lo hi : Int32} (f5 : ¬ F 5 ≤ 0) : dM PG 357 [.ref 277, .int lo, .int hi] (h.mt F w) = some (.inl (some (.int lo)), h.mt F w) := by
  rw [dM_of (Nat.le_of_ble_eq_true rfl)]
  simp -implicitDefEqProofs only [D_357_0, k_357_0, D_357_9, k_357_9, D_357_25, k_357_25, D_357_42, k_357_42, D_357_53, k_357_53, D_357_57, k_357_57, R_357, v_aload_n, g_getfield, sv_i, rf_s, g_getfieldS, g_if_le, v_iload_n, g_ireturn, g_iconst, g_icmp_eq, v_callV2, aft_v, aft_n, g_goto, v_callS3, g_if_ne, g_istore_n, v_callV1, entL, getL, setL, kL_i, kL_r, isI_s, isR_s, isJ_s, gV_s, iV_i, cs0, cs1, cs2, cs3, cs4, dn_nil, kd_si, kd_sl, kd_sw, mr_si, mr_sl, mr_sw, ml_si, ml_sw, mi_sl, mk_277 H, mk_278 H, mk_279 H, mk_280 H, mk_281 H, mk_282 H, mk_283 H, mk_284 H, mk_285 H, mk_286 H, mk_287 H, mk_288 H, mk_289 H, mr_1 H, mr_11 H, mr_12 H, mr_13 H, mr_14 H, mr_15 H, mr_16 H, mr_17 H, mr_18 H, mr_19 H, mr_24 H, mr_25 H, mt_k, mt_f, ↓if_neg f5, if_neg f5, retX_int]
theorem x_337d (H : MO h) {e : Nat × Nat} {kv : Int32} (M : MS F w n T (.inl e)) : dB PG 337 159 (LI i r f m (some (.int kv) :: tl)) [] ((h.mb N P D).mt F w) = some (.inl none, (h.mb N P D).mt F w) := by
  have n5 := ms_5 M
  have g2 := m_294e (h := h.mb N P D) (w := w) H n5
  have g3 := m_357e (h := h.mb N P D) (w := w) (lo := 1) (hi := 99) H n5
  unfold LI
  rw [D_337_159]
  simp -implicitDefEqProofs only [k_337_0, k_337_19, k_337_47, k_337_67, k_337_103, k_337_106, k_337_126, k_337_142, k_337_159, k_337_180, k_337_206, k_337_214, R_337, v_aload_n, g_getfield, sv_a, rf_s, g_getfieldS, g_bipush, v_iaload, inI_0, g_istore_n, v_iload_n, g_icmp_ne, g_iconst, v_callV2, aft_v, aft_n, v_callV1, g_sipush, v_callV3, g_i2l, g_lstore_n, g_lstore, g_istore, g_ldc, g_if_eq, v_iload, v_lload_n, g_ladd, v_lload, v_iinc, g_goto, g_if_ne, sv_i, g_if_le, g_return, g_imul, g_iadd, g_dup2, v_iastore, wrI_0, v_callS3, entL, getL, setL, kL_i, kL_r, isI_s, isR_s, isJ_s, gV_s, iV_i, cs0, cs1, cs2, cs3, cs4, dn_nil, kd_si, kd_sl, kd_sw, mr_si, mr_sl, mr_sw, ml_si, ml_sw, mi_sl, mk_277 H, mk_278 H, mk_279 H, mk_280 H, mk_281 H, mk_282 H, mk_283 H, mk_284 H, mk_285 H, mk_286 H, mk_287 H, mk_288 H, mk_289 H, mr_1 H, mr_11 H, mr_12 H, mr_13 H, mr_14 H, mr_15 H, mr_16 H, mr_17 H, mr_18 H, mr_19 H, mr_24 H, mr_25 H, mt_k, mb_k, mt_f, g2, g3, ↓if_neg n5, if_neg n5]
theorem VD_s {fv : Nat → Int32} {k : Nat} {v : Int32} (V : VD D0 i fv D) (hk : k < 4) : VD D0 i (zu fv k v) (zu D (368 + 4 * i + k) v) := by
  refine ⟨fun j hj => ?_, fun j hj => ?_⟩
  · by_cases c : j = k
    · subst c
      rw [zu_same, zu_same]
    · rw [zu_o c, zu_o (by omega)]
      exact V.1 j hj
  · rw [zu_o (by omega)]
    exact V.2 j hj
theorem l_337b (H : MO h) (B : MTO h n T) (W : WMD h) {ns : Nat} {nm : Nat → Nat × (Nat → Nat)} (h4 : ns ≤ 4) (p7 : P 7 = Int32.ofNat ns) (K : NMM N ns nm) (hi : i < 60) : ∀ (k v : Nat) (fv : Nat → Int32) (t : Tok) (F : Nat → Int32) (w : Int64) (D : Nat → Int32) (tl : Lc), v + k = 5 → MS F w n T (.inr t) → VD D0 i fv D → okB h n T N P D0 i r f F (pVl T n nm ns k ((v, fv), t)) (dB PG 337 106 (LI i r f (Int32.ofNat v) tl) [] ((h.mb N P D).mt F w)) := by
  intro k
  induction k with
  | zero =>
    intro v fv t F w D tl hs M V
    have g := s_333 (h := h.mb N P D) (p := 38) (i := 14) H (mb_to B) (mb_wm W) M rfl (by decide)
    obtain rfl : v = 5 := by omega
    show okB h n T N P D0 i r f F (if isK T t 14 = true then .inl (5, t.1) else .inr ((5, fv), t)) _
    cases c : isK T t 14 with
    | true =>
      rw [c, b2i_1] at g
      rw [if_pos rfl]
      have g2 := m_297 (h := h.mb N P D) (x := 5) (w := w) H M.2.2.2.1
      have M1 := ms_rep (w' := w) (k := 5) (x := 5) M (by decide) (by decide)
      obtain ⟨F2, w2, kv, e2, k2, M2, -⟩ := e_337v (N := N) (P := P) (D := D) (i := i) (r := r) (f := f) (m := Int32.ofNat 5) (tl := tl) H B W h4 p7 K M1
      have M2 : MS F2 w2 n T (.inl (5, t.1)) := M2
      refine ⟨F2, w2, D, ?_, M2, kf_rep.tr k2, V.2 9 (by omega)⟩
      have e3 : (Int32.ofNat 5 : Int32) = 5 := rfl
      have e1 : dB PG 337 106 (LI i r f (Int32.ofNat 5) tl) [] ((h.mb N P D).mt F w) = dB PG 337 126 (LI i r f (Int32.ofNat 5) tl) [] ((h.mb N P D).mt (zu (zu F 5 5) 6 (F 8)) w) := by
        unfold LI
        rw [D_337_106, e3]
        simp -implicitDefEqProofs only [k_337_0, k_337_19, k_337_47, k_337_67, k_337_103, k_337_106, k_337_126, k_337_142, k_337_159, k_337_180, k_337_206, k_337_214, R_337, v_aload_n, g_getfield, sv_a, rf_s, g_getfieldS, g_bipush, v_iaload, inI_0, g_istore_n, v_iload_n, g_icmp_ne, g_iconst, v_callV2, aft_v, aft_n, v_callV1, g_sipush, v_callV3, g_i2l, g_lstore_n, g_lstore, g_istore, g_ldc, g_if_eq, v_iload, v_lload_n, g_ladd, v_lload, v_iinc, g_goto, g_if_ne, sv_i, g_if_le, g_return, g_imul, g_iadd, g_dup2, v_iastore, wrI_0, v_callS3, entL, getL, setL, kL_i, kL_r, isI_s, isR_s, isJ_s, gV_s, iV_i, cs0, cs1, cs2, cs3, cs4, dn_nil, kd_si, kd_sl, kd_sw, mr_si, mr_sl, mr_sw, ml_si, ml_sw, mi_sl, mk_277 H, mk_278 H, mk_279 H, mk_280 H, mk_281 H, mk_282 H, mk_283 H, mk_284 H, mk_285 H, mk_286 H, mk_287 H, mk_288 H, mk_289 H, mr_1 H, mr_11 H, mr_12 H, mr_13 H, mr_14 H, mr_15 H, mr_16 H, mr_17 H, mr_18 H, mr_19 H, mr_24 H, mr_25 H, mt_k, mb_k, mt_f, g, ↓if_neg z_1, if_neg z_1, ↓if_true, if_true, g2]
      rw [e1]
      exact e2.trans (x_337d H M2)
    | false =>
      rw [c, b2i_0] at g
      rw [if_neg Bool.false_ne_true]
      refine ⟨F, w, D, tl, ?_, M, keepF.rf, V⟩
      unfold LI
      rw [D_337_106]
      simp -implicitDefEqProofs only [k_337_0, k_337_19, k_337_47, k_337_67, k_337_103, k_337_106, k_337_126, k_337_142, k_337_159, k_337_180, k_337_206, k_337_214, R_337, v_aload_n, g_getfield, sv_a, rf_s, g_getfieldS, g_bipush, v_iaload, inI_0, g_istore_n, v_iload_n, g_icmp_ne, g_iconst, v_callV2, aft_v, aft_n, v_callV1, g_sipush, v_callV3, g_i2l, g_lstore_n, g_lstore, g_istore, g_ldc, g_if_eq, v_iload, v_lload_n, g_ladd, v_lload, v_iinc, g_goto, g_if_ne, sv_i, g_if_le, g_return, g_imul, g_iadd, g_dup2, v_iastore, wrI_0, v_callS3, entL, getL, setL, kL_i, kL_r, isI_s, isR_s, isJ_s, gV_s, iV_i, cs0, cs1, cs2, cs3, cs4, dn_nil, kd_si, kd_sl, kd_sw, mr_si, mr_sl, mr_sw, ml_si, ml_sw, mi_sl, mk_277 H, mk_278 H, mk_279 H, mk_280 H, mk_281 H, mk_282 H, mk_283 H, mk_284 H, mk_285 H, mk_286 H, mk_287 H, mk_288 H, mk_289 H, mr_1 H, mr_11 H, mr_12 H, mr_13 H, mr_14 H, mr_15 H, mr_16 H, mr_17 H, mr_18 H, mr_19 H, mr_24 H, mr_25 H, mt_k, mb_k, mt_f, g, ↓if_true, if_true]
  | succ k ih =>
    intro v fv t F w D tl hs M V
    have g := s_333 (h := h.mb N P D) (p := 38) (i := 14) H (mb_to B) (mb_wm W) M rfl (by decide)
    show okB h n T N P D0 i r f F (if isK T t 14 = true then pB (pVo T n nm ns fv (tok T n t.2.1)) (fun b => pVl T n nm ns k ((v + 1, b.1), b.2)) else .inr ((v, fv), t)) _
    cases c : isK T t 14 with
    | true =>
      rw [c, b2i_1] at g
      rw [if_pos rfl]
      have s5 : ¬ Int32.ofNat v = 5 := by
        show ¬ Int32.ofNat v = Int32.ofNat 5
        exact i32_ne (by omega) (by omega) (by omega)
      obtain ⟨F2, w2, kv, e2, k2, M2, hk2⟩ := e_337v (N := N) (P := P) (D := D) (i := i) (r := r) (f := f) (m := Int32.ofNat v) (tl := tl) H B W h4 p7 K M
      have e1 : dB PG 337 106 (LI i r f (Int32.ofNat v) tl) [] ((h.mb N P D).mt F w) = dB PG 337 126 (LI i r f (Int32.ofNat v) tl) [] ((h.mb N P D).mt F w) := by
        unfold LI
        rw [D_337_106]
        simp -implicitDefEqProofs only [k_337_0, k_337_19, k_337_47, k_337_67, k_337_103, k_337_106, k_337_126, k_337_142, k_337_159, k_337_180, k_337_206, k_337_214, R_337, v_aload_n, g_getfield, sv_a, rf_s, g_getfieldS, g_bipush, v_iaload, inI_0, g_istore_n, v_iload_n, g_icmp_ne, g_iconst, v_callV2, aft_v, aft_n, v_callV1, g_sipush, v_callV3, g_i2l, g_lstore_n, g_lstore, g_istore, g_ldc, g_if_eq, v_iload, v_lload_n, g_ladd, v_lload, v_iinc, g_goto, g_if_ne, sv_i, g_if_le, g_return, g_imul, g_iadd, g_dup2, v_iastore, wrI_0, v_callS3, entL, getL, setL, kL_i, kL_r, isI_s, isR_s, isJ_s, gV_s, iV_i, cs0, cs1, cs2, cs3, cs4, dn_nil, kd_si, kd_sl, kd_sw, mr_si, mr_sl, mr_sw, ml_si, ml_sw, mi_sl, mk_277 H, mk_278 H, mk_279 H, mk_280 H, mk_281 H, mk_282 H, mk_283 H, mk_284 H, mk_285 H, mk_286 H, mk_287 H, mk_288 H, mk_289 H, mr_1 H, mr_11 H, mr_12 H, mr_13 H, mr_14 H, mr_15 H, mr_16 H, mr_17 H, mr_18 H, mr_19 H, mr_24 H, mr_25 H, mt_k, mb_k, mt_f, g, ↓if_neg z_1, if_neg z_1, ↓if_neg s5, if_neg s5]
      rw [e1, e2]
      simp only [pB_r] at M2 hk2
      unfold pVo
      unfold nmY at M2 hk2
      cases cn : pNa T (tok T n t.2.1) with
      | false =>
        rw [cn, if_neg Bool.false_ne_true] at M2
        rw [if_neg Bool.false_ne_true, pB_l]
        exact ⟨F2, w2, D, x_337d H M2, M2, k2, V.2 9 (by omega)⟩
      | true =>
        rw [cn, if_pos rfl] at M2 hk2
        rw [if_pos rfl]
        cases ck : pKi T nm ns (tok T n t.2.1) with
        | none =>
          rw [ck] at M2
          have M2 : MS F2 w2 n T (.inl (3, (tok T n t.2.1).1)) := M2
          exact ⟨F2, w2, D, x_337d H M2, M2, k2, V.2 9 (by omega)⟩
        | some k3 =>
          rw [ck] at M2 hk2
          have M2 : MS F2 w2 n T (.inr (tok T n t.2.1)) := M2
          obtain ⟨k4, e4, ev, lk⟩ := hk2 _ rfl
          rw [ck] at e4
          cases e4
          subst ev
          obtain ⟨F3, w3, g3, M3, k3'⟩ := s_294 (h := h.mb N P D) H (mb_to B) M2
          obtain ⟨F4, w4, g4, M4, k4'⟩ := s_357 (h := h.mb N P D) (lo := 1) (hi := 99) H (mb_to B) M3 (by decide) (by decide)
          rw [pB_r] at g4 M4
          show okB h n T N P D0 i r f F (pB (pB (pNu T n 1 99 (tok T n (tok T n t.2.1).2.1)) fun a => .inr (zu fv k3 (fv k3 + Int32.ofNat a.1), a.2)) fun b => pVl T n nm ns k ((v + 1, b.1), b.2)) _
          generalize hu : vlE 1 (pNu T n 1 99 (tok T n (tok T n t.2.1).2.1)) = u at g4
          have g4 : dM PG 357 [.ref 277, .int 1, .int 99] ((h.mb N P D).mt F3 w3) = some (.inl (some (.int (Int32.ofNat u))), (h.mb N P D).mt F4 w4) := g4
          have kk : keepF F F4 := (k2.tr k3').tr k4'
          cases ey : pNu T n 1 99 (tok T n (tok T n t.2.1).2.1) with
          | inl e =>
            rw [ey] at M4
            have M4 : MS F4 w4 n T (.inl e) := M4
            have n5 := ms_5 M4
            refine ⟨F4, w4, D, ?_, M4, kk, V.2 9 (by omega)⟩
            unfold LI
            rw [D_337_159]
            simp -implicitDefEqProofs only [k_337_0, k_337_19, k_337_47, k_337_67, k_337_103, k_337_106, k_337_126, k_337_142, k_337_159, k_337_180, k_337_206, k_337_214, R_337, v_aload_n, g_getfield, sv_a, rf_s, g_getfieldS, g_bipush, v_iaload, inI_0, g_istore_n, v_iload_n, g_icmp_ne, g_iconst, v_callV2, aft_v, aft_n, v_callV1, g_sipush, v_callV3, g_i2l, g_lstore_n, g_lstore, g_istore, g_ldc, g_if_eq, v_iload, v_lload_n, g_ladd, v_lload, v_iinc, g_goto, g_if_ne, sv_i, g_if_le, g_return, g_imul, g_iadd, g_dup2, v_iastore, wrI_0, v_callS3, entL, getL, setL, kL_i, kL_r, isI_s, isR_s, isJ_s, gV_s, iV_i, cs0, cs1, cs2, cs3, cs4, dn_nil, kd_si, kd_sl, kd_sw, mr_si, mr_sl, mr_sw, ml_si, ml_sw, mi_sl, mk_277 H, mk_278 H, mk_279 H, mk_280 H, mk_281 H, mk_282 H, mk_283 H, mk_284 H, mk_285 H, mk_286 H, mk_287 H, mk_288 H, mk_289 H, mr_1 H, mr_11 H, mr_12 H, mr_13 H, mr_14 H, mr_15 H, mr_16 H, mr_17 H, mr_18 H, mr_19 H, mr_24 H, mr_25 H, mt_k, mb_k, mt_f, g3, g4, ↓if_neg n5, if_neg n5]
          | inr b =>
            rw [ey] at M4 hu
            have hu : b.1 = u := hu
            have M4 : MS F4 w4 n T (.inr b.2) := M4
            have f5 : F4 5 = 0 := M4.2.2.2.1
            have z : (0 : Int32) ≤ 0 := by decide
            have m4 : (4 : Int32) * Int32.ofNat i = Int32.ofNat (4 * i) := i32_mul (a := 4)
            have a1 : (368 : Int32) + Int32.ofNat (4 * i) = Int32.ofNat (368 + 4 * i) := i32_add (a := 368)
            have a2 : Int32.ofNat (368 + 4 * i) + Int32.ofNat k3 = Int32.ofNat (368 + 4 * i + k3) := i32_add
            have b_1 : inb (Int32.ofNat (368 + 4 * i + k3)) 1168 = true := inb_nat (by omega) (by decide)
            have n_1 : (Int32.ofNat (368 + 4 * i + k3)).toNatClampNeg = 368 + 4 * i + k3 := i32_nat (by omega)
            have s1 : Int32.ofNat (v) + 1 = Int32.ofNat (v + 1) := i32_add (b := 1)
            have dv : D (368 + 4 * i + k3) = fv k3 := V.1 k3 (by omega)
            have V2 : VD D0 i (zu fv k3 (fv k3 + Int32.ofNat u)) (zu D (368 + 4 * i + k3) (fv k3 + Int32.ofNat u)) := VD_s V (by omega)
            have g6 := ih (v + 1) (zu fv k3 (fv k3 + Int32.ofNat u)) b.2 F4 w4 (zu D (368 + 4 * i + k3) (fv k3 + Int32.ofNat u)) (some (.int (Int32.ofNat k3)) :: some (.int (Int32.ofNat u)) :: tl.tail.tail) (by omega) M4 V2
            have e7 : dB PG 337 159 (LI i r f (Int32.ofNat v) (some (.int (Int32.ofNat k3)) :: tl.tail)) [] ((h.mb N P D).mt F2 w2) = dB PG 337 106 (LI i r f (Int32.ofNat (v + 1)) (some (.int (Int32.ofNat k3)) :: some (.int (Int32.ofNat u)) :: tl.tail.tail)) [] ((h.mb N P (zu D (368 + 4 * i + k3) (fv k3 + Int32.ofNat u))).mt F4 w4) := by
              unfold LI
              rw [D_337_159]
              simp -implicitDefEqProofs only [k_337_0, k_337_19, k_337_47, k_337_67, k_337_103, k_337_106, k_337_126, k_337_142, k_337_159, D_337_180, k_337_180, k_337_206, k_337_214, R_337, v_aload_n, g_getfield, sv_a, rf_s, g_getfieldS, g_bipush, v_iaload, inI_0, g_istore_n, v_iload_n, g_icmp_ne, g_iconst, v_callV2, aft_v, aft_n, v_callV1, g_sipush, v_callV3, g_i2l, g_lstore_n, g_lstore, g_istore, g_ldc, g_if_eq, v_iload, v_lload_n, g_ladd, v_lload, v_iinc, g_goto, g_if_ne, sv_i, g_if_le, g_return, g_imul, g_iadd, g_dup2, v_iastore, wrI_0, v_callS3, entL, getL, setL, kL_i, kL_r, isI_s, isR_s, isJ_s, gV_s, iV_i, cs0, cs1, cs2, cs3, cs4, dn_nil, kd_si, kd_sl, kd_sw, mr_si, mr_sl, mr_sw, ml_si, ml_sw, mi_sl, mk_277 H, mk_278 H, mk_279 H, mk_280 H, mk_281 H, mk_282 H, mk_283 H, mk_284 H, mk_285 H, mk_286 H, mk_287 H, mk_288 H, mk_289 H, mr_1 H, mr_11 H, mr_12 H, mr_13 H, mr_14 H, mr_15 H, mr_16 H, mr_17 H, mr_18 H, mr_19 H, mr_24 H, mr_25 H, mt_k, mt_r, mb_k, mb_r, mt_f, mq_D, qw_D, g3, g4, f5, ↓if_pos z, if_pos z, setL_0, kL_n, m4, a1, a2, b_1, n_1, dv, s1]
            rw [e7, pB_r, pB_r, hu]
            exact okB_k kk g6
    | false =>
      rw [c, b2i_0] at g
      rw [if_neg Bool.false_ne_true]
      refine ⟨F, w, D, tl, ?_, M, keepF.rf, V⟩
      unfold LI
      rw [D_337_106]
      simp -implicitDefEqProofs only [k_337_0, k_337_19, k_337_47, k_337_67, k_337_103, k_337_106, k_337_126, k_337_142, k_337_159, k_337_180, k_337_206, k_337_214, R_337, v_aload_n, g_getfield, sv_a, rf_s, g_getfieldS, g_bipush, v_iaload, inI_0, g_istore_n, v_iload_n, g_icmp_ne, g_iconst, v_callV2, aft_v, aft_n, v_callV1, g_sipush, v_callV3, g_i2l, g_lstore_n, g_lstore, g_istore, g_ldc, g_if_eq, v_iload, v_lload_n, g_ladd, v_lload, v_iinc, g_goto, g_if_ne, sv_i, g_if_le, g_return, g_imul, g_iadd, g_dup2, v_iastore, wrI_0, v_callS3, entL, getL, setL, kL_i, kL_r, isI_s, isR_s, isJ_s, gV_s, iV_i, cs0, cs1, cs2, cs3, cs4, dn_nil, kd_si, kd_sl, kd_sw, mr_si, mr_sl, mr_sw, ml_si, ml_sw, mi_sl, mk_277 H, mk_278 H, mk_279 H, mk_280 H, mk_281 H, mk_282 H, mk_283 H, mk_284 H, mk_285 H, mk_286 H, mk_287 H, mk_288 H, mk_289 H, mr_1 H, mr_11 H, mr_12 H, mr_13 H, mr_14 H, mr_15 H, mr_16 H, mr_17 H, mr_18 H, mr_19 H, mr_24 H, mr_25 H, mt_k, mb_k, mt_f, g, ↓if_true, if_true]
theorem w_eq {a b c : Int32} : wgF a.toInt64 b.toInt64 c = wfF a b c := by
  unfold wgF wfF
  generalize (2 * a.toInt64 * c.toInt64 + b.toInt64) / (2 * b.toInt64) = y
  by_cases c1 : y < 60000
  · rw [if_pos c1, if_neg (fun q => Int64.lt_irrefl (Int64.lt_trans c1 q))]
  · rw [if_neg c1]
    by_cases c2 : 60000 < y
    · rw [if_pos c2]
    · rw [if_neg c2, Int64.le_antisymm (Int64.not_lt.mp c2) (Int64.not_lt.mp c1)]
theorem s_337 (H : MO h) (B : MTO h n T) (W : WMD h) (M : MS F w n T (.inr t)) (C : MRw q F N P D) : okM1 h n T F (pIt T n q t) (dM PG 337 [.ref 277] ((h.mb N P D).mt F w)) := by
  obtain ⟨⟨i1, i2, i3, i4, i5, i6⟩, cP, cD, cN, c23, cz⟩ := C
  have p7 : P 7 = Int32.ofNat q.ns := by rw [cP 7 (by decide), i5]
  have d9 : D 9 = Int32.ofNat q.ni := by rw [cD 9 (by decide), i6]
  have e0 : ∃ F0, dM PG 337 [.ref 277] ((h.mb N P D).mt F w) = dB PG 337 19 [some (.ref 277), some (.int (Int32.ofNat q.ni))] [] ((h.mb N P D).mt F0 w) ∧ MS F0 w n T (im0 q.ni t) ∧ keepF F F0 := by
    by_cases c : 60 ≤ q.ni
    · have c4 : Int32.ofNat q.ni = 60 := by
        rw [show q.ni = 60 by omega]; rfl
      have g := m_297 (h := h.mb N P D) (x := 5) (w := w) H M.2.2.2.1
      unfold im0
      rw [if_pos c]
      refine ⟨_, ?_, ms_rep (k := 5) (x := 5) M (by decide) (by decide), kf_rep⟩
      rw [dM_of (Nat.le_of_ble_eq_true rfl)]
      simp -implicitDefEqProofs only [D_337_0, k_337_0, k_337_19, v_aload_n, g_getfield, sv_a, rf_s, g_getfieldS, g_bipush, v_iaload, inI_0, g_istore_n, v_iload_n, g_icmp_ne, g_iconst, v_callV2, aft_v, aft_n, v_callV1, g_sipush, v_callV3, g_i2l, g_lstore_n, g_lstore, g_istore, entL, getL, setL, kL_i, kL_r, isI_s, isR_s, isJ_s, gV_s, iV_i, cs0, cs1, cs2, cs3, cs4, dn_nil, kd_si, kd_sl, kd_sw, mr_si, mr_sl, mr_sw, ml_si, ml_sw, mi_sl, mk_277 H, mk_278 H, mk_279 H, mk_280 H, mk_281 H, mk_282 H, mk_283 H, mk_284 H, mk_285 H, mk_286 H, mk_287 H, mk_288 H, mk_289 H, mr_1 H, mr_11 H, mr_12 H, mr_13 H, mr_14 H, mr_15 H, mr_16 H, mr_17 H, mr_18 H, mr_19 H, mr_24 H, mr_25 H, mt_k, mt_r, mb_k, mb_r, in_0, in_1, in_2, in_3, in_4, in_5, in_6, in_7, in_8, in_9, ix_0, ix_1, ix_2, ix_3, ix_4, ix_5, ix_6, ix_7, ix_8, ix_9, ix_10, ix_11, ix_12, ix_13, ix_14, ix_15, ix_16, ix_17, ix_18, ix_19, ix_20, ix_21, ix_22, ix_23, ix_24, ix_25, mq_D, d9, ↓if_pos c4, if_pos c4, g]
    · have c4 : ¬ Int32.ofNat q.ni = 60 := by
        show ¬ Int32.ofNat q.ni = Int32.ofNat 60
        exact i32_ne (by omega) (by omega) (by omega)
      unfold im0
      rw [if_neg c]
      refine ⟨F, ?_, M, keepF.rf⟩
      rw [dM_of (Nat.le_of_ble_eq_true rfl)]
      simp -implicitDefEqProofs only [D_337_0, k_337_0, k_337_19, v_aload_n, g_getfield, sv_a, rf_s, g_getfieldS, g_bipush, v_iaload, inI_0, g_istore_n, v_iload_n, g_icmp_ne, g_iconst, v_callV2, aft_v, aft_n, v_callV1, g_sipush, v_callV3, g_i2l, g_lstore_n, g_lstore, g_istore, entL, getL, setL, kL_i, kL_r, isI_s, isR_s, isJ_s, gV_s, iV_i, cs0, cs1, cs2, cs3, cs4, dn_nil, kd_si, kd_sl, kd_sw, mr_si, mr_sl, mr_sw, ml_si, ml_sw, mi_sl, mk_277 H, mk_278 H, mk_279 H, mk_280 H, mk_281 H, mk_282 H, mk_283 H, mk_284 H, mk_285 H, mk_286 H, mk_287 H, mk_288 H, mk_289 H, mr_1 H, mr_11 H, mr_12 H, mr_13 H, mr_14 H, mr_15 H, mr_16 H, mr_17 H, mr_18 H, mr_19 H, mr_24 H, mr_25 H, mt_k, mt_r, mb_k, mb_r, in_0, in_1, in_2, in_3, in_4, in_5, in_6, in_7, in_8, in_9, ix_0, ix_1, ix_2, ix_3, ix_4, ix_5, ix_6, ix_7, ix_8, ix_9, ix_10, ix_11, ix_12, ix_13, ix_14, ix_15, ix_16, ix_17, ix_18, ix_19, ix_20, ix_21, ix_22, ix_23, ix_24, ix_25, mq_D, d9, ↓if_neg c4, if_neg c4]
  obtain ⟨F0, ed, M0, k0⟩ := e0
  obtain ⟨F1, w1, g1, M1, k1⟩ := s_294x (h := h.mb N P D) H (mb_to B) M0
  have M1 : MS F1 w1 n T (im1 T n q.ni t) := M1
  obtain ⟨F2, w2, g2, M2, k2⟩ := s_357 (h := h.mb N P D) (lo := 0) (hi := 20000) H (mb_to B) M1 (by decide) (by decide)
  have M2 : MS F2 w2 n T (sdE (im2 T n q.ni t)) := M2
  obtain ⟨F3, w3, g3, M3, k3⟩ := s_357 (h := h.mb N P D) (lo := 1) (hi := 9999) H (mb_to B) M2 (by decide) (by decide)
  have M3 : MS F3 w3 n T (sdE (im3 T n q.ni t)) := M3
  have l2 : vlE 0 (im2 T n q.ni t) ≤ 20000 := (vl_le (by decide)).2
  have l3 : 1 ≤ vlE 1 (im3 T n q.ni t) ∧ vlE 1 (im3 T n q.ni t) ≤ 9999 := vl_le (by decide)
  have g2 : dM PG 357 [.ref 277, .int 0, .int 20000] ((h.mb N P D).mt F1 w1) = some (.inl (some (.int (Int32.ofNat (vlE 0 (im2 T n q.ni t))))), (h.mb N P D).mt F2 w2) := g2
  have g3 : dM PG 357 [.ref 277, .int 1, .int 9999] ((h.mb N P D).mt F2 w2) = some (.inl (some (.int (Int32.ofNat (vlE 1 (im3 T n q.ni t))))), (h.mb N P D).mt F3 w3) := g3
  have kk : keepF F F3 := ((k0.tr k1).tr k2).tr k3
  rw [pIt_x]
  generalize vlE 0 (im2 T n q.ni t) = r at g2 l2
  generalize vlE 1 (im3 T n q.ni t) = f at g3 l3
  have j2 : (Int32.ofNat r).toInt64 = Int64.ofNat r := i64_of (by omega)
  have j3 : (Int32.ofNat f).toInt64 = Int64.ofNat f := i64_of (by omega)
  have ee : dM PG 337 [.ref 277] ((h.mb N P D).mt F w) = dB PG 337 47 (LI q.ni (Int64.ofNat r) (Int64.ofNat f) (Int32.ofNat 1) []) [] ((h.mb N P D).mt F3 w3) := by
    unfold LI
    rw [ed, D_337_19]
    simp -implicitDefEqProofs only [k_337_0, k_337_19, k_337_47, v_aload_n, g_getfield, sv_a, rf_s, g_getfieldS, g_bipush, v_iaload, inI_0, g_istore_n, v_iload_n, g_icmp_ne, g_iconst, v_callV2, aft_v, aft_n, v_callV1, g_sipush, v_callV3, g_i2l, g_lstore_n, g_lstore, g_istore, g_ldc, g_if_eq, v_iload, entL, getL, setL, kL_i, kL_r, isI_s, isR_s, isJ_s, gV_s, iV_i, cs0, cs1, cs2, cs3, cs4, dn_nil, kd_si, kd_sl, kd_sw, mr_si, mr_sl, mr_sw, ml_si, ml_sw, mi_sl, mk_277 H, mk_278 H, mk_279 H, mk_280 H, mk_281 H, mk_282 H, mk_283 H, mk_284 H, mk_285 H, mk_286 H, mk_287 H, mk_288 H, mk_289 H, mr_1 H, mr_11 H, mr_12 H, mr_13 H, mr_14 H, mr_15 H, mr_16 H, mr_17 H, mr_18 H, mr_19 H, mr_24 H, mr_25 H, mt_k, mb_k, g1, g2, g3, j2, j3, setL2, nonL, kL_n, kL_j]
    rfl
  rw [ee]
  generalize hx : sdE (im3 T n q.ni t) = x3 at M3
  cases x3 with
  | inl e =>
    rw [pB_l]
    exact ⟨F3, w3, N, P, D, x_337b H M3, keepG.of kk, M3, ⟨q.ns, i2, p7⟩, ⟨q.ni, i3, d9⟩⟩
  | inr t3 =>
  have h60 := it_60 hx
  rw [pB_r]
  have gA := l_337a (N := N) (P := P) (D := D) (i := q.ni) H B W 2 1 r f t3 F3 w3 (by decide) (by decide) (by omega) l3.1 (by omega) M3
  cases ea : pSl T n 2 ((r, f), t3) with
  | inl e =>
    rw [ea] at gA
    obtain ⟨F4, w4, g4, M4, k4⟩ := gA
    exact ⟨F4, w4, N, P, D, g4, keepG.of (kk.tr k4), M4, ⟨q.ns, i2, p7⟩, ⟨q.ni, i3, d9⟩⟩
  | inr a =>
  rw [ea] at gA
  obtain ⟨F4, w4, m4, g4, M4, k4, la1, la2, la3⟩ := gA
  rw [pB_r, g4]
  have V0 : VD D q.ni (fun _ => 0) D := by
    refine ⟨fun k hk => ?_, fun j _ => rfl⟩
    rw [cD _ (by omega)]
    exact cz _ (by omega) (by omega)
  have gB := l_337b (D0 := D) (N := N) (P := P) (i := q.ni) (r := Int64.ofNat a.1.1) (f := Int64.ofNat a.1.2) H B W i2 p7 cN h60 5 0 (fun _ => 0) a.2 F4 w4 D [] (by decide) M4 V0
  have e5 : dB PG 337 103 (LI q.ni (Int64.ofNat a.1.1) (Int64.ofNat a.1.2) m4 []) [] ((h.mb N P D).mt F4 w4) = dB PG 337 106 (LI q.ni (Int64.ofNat a.1.1) (Int64.ofNat a.1.2) (Int32.ofNat 0) []) [] ((h.mb N P D).mt F4 w4) := by
    unfold LI
    rw [D_337_103]
    simp -implicitDefEqProofs only [k_337_0, k_337_19, k_337_47, k_337_103, k_337_106, v_aload_n, g_getfield, sv_a, rf_s, g_getfieldS, g_bipush, v_iaload, inI_0, g_istore_n, v_iload_n, g_icmp_ne, g_iconst, v_callV2, aft_v, aft_n, v_callV1, g_sipush, v_callV3, g_i2l, g_lstore_n, g_lstore, g_istore, g_ldc, g_if_eq, v_iload, entL, getL, setL, kL_i, kL_r, isI_s, isR_s, isJ_s, gV_s, iV_i, cs0, cs1, cs2, cs3, cs4, dn_nil, kd_si, kd_sl, kd_sw, mr_si, mr_sl, mr_sw, ml_si, ml_sw, mi_sl, kL_n]
    rfl
  rw [e5]
  cases eb : pVl T n q.nm q.ns 5 ((0, fun _ => 0), a.2) with
  | inl e =>
    rw [eb] at gB
    obtain ⟨F5, w5, D5, g5, M5, k5, dd⟩ := gB
    exact ⟨F5, w5, N, P, D5, g5, keepG.of ((kk.tr k4).tr k5), M5, ⟨q.ns, i2, p7⟩, ⟨q.ni, i3, dd.trans d9⟩⟩
  | inr b =>
  rw [eb] at gB
  obtain ⟨F5, w5, D5, tl5, g5, M5, k5, V5⟩ := gB
  rw [pB_r, g5]
  have k6 : keepF F F5 := (kk.tr k4).tr k5
  have f5 : F5 5 = 0 := M5.2.2.2.1
  have z : (0 : Int32) ≤ 0 := by decide
  have hz : ¬ (2 : Int64) * Int64.ofNat a.1.2 = 0 := by
    have := tw_ne (b := a.1.2) la2 (by omega)
    rw [i64_of (by omega)] at this
    exact this
  have gw := m_163 (r := Int64.ofNat a.1.1) (f := Int64.ofNat a.1.2) (c := P 0) hz (h := (h.mb N P D5).mt F5 w5)
  have ew : wgF (Int64.ofNat a.1.1) (Int64.ofNat a.1.2) (P 0) = wfF (Int32.ofNat a.1.1) (Int32.ofNat a.1.2) (q.pl 0) := by
    rw [← i64_of (t := a.1.1) (by omega), ← i64_of (t := a.1.2) (by omega), w_eq, cP 0 (by decide)]
  rw [ew] at gw
  generalize wfF (Int32.ofNat a.1.1) (Int32.ofNat a.1.2) (q.pl 0) = wv at gw
  have a208 : (208 : Int32) + Int32.ofNat q.ni = Int32.ofNat (208 + q.ni) := i32_add (a := 208)
  have a288 : (288 : Int32) + Int32.ofNat q.ni = Int32.ofNat (288 + q.ni) := i32_add (a := 288)
  have b_1 : inb (Int32.ofNat (208 + q.ni)) 1168 = true := inb_nat (by omega) (by decide)
  have n_1 : (Int32.ofNat (208 + q.ni)).toNatClampNeg = 208 + q.ni := i32_nat (by omega)
  have b_2 : inb (Int32.ofNat (288 + q.ni)) 1168 = true := inb_nat (by omega) (by decide)
  have n_2 : (Int32.ofNat (288 + q.ni)).toNatClampNeg = 288 + q.ni := i32_nat (by omega)
  have s1 : Int32.ofNat (q.ni) + 1 = Int32.ofNat (q.ni + 1) := i32_add (b := 1)
  have d9' : zu (zu D5 (208 + q.ni) wv) (288 + q.ni) (Int32.ofNat b.1.1) 9 = Int32.ofNat q.ni := by
    rw [zu_o (by omega), zu_o (by omega), V5.2 9 (by omega), d9]
  refine ⟨F5, w5, N, P, zu (zu (zu D5 (208 + q.ni) wv) (288 + q.ni) (Int32.ofNat b.1.1)) 9 (Int32.ofNat (q.ni + 1)), ?_, keepG.of k6, M5, ⟨i1, i2, h60, i4, i5, ?_⟩, cP, fun k hk => ?_, cN, (k6 23 (by omega)).trans c23, fun j a b => ?_⟩
  · unfold LI
    rw [D_337_206]
    simp -implicitDefEqProofs only [k_337_0, k_337_19, k_337_47, k_337_206, D_337_214, k_337_214, R_337, v_aload_n, g_getfield, sv_a, rf_s, g_getfieldS, g_bipush, v_iaload, inI_0, g_istore_n, v_iload_n, g_icmp_ne, g_iconst, v_callV2, aft_v, aft_n, v_callV1, g_sipush, v_callV3, g_i2l, g_lstore_n, g_lstore, g_istore, g_ldc, g_if_eq, v_iload, sv_i, g_if_le, g_return, g_iadd, v_lload_n, v_lload, v_callS3, v_iastore, wrI_0, g_dup2, entL, getL, setL, kL_i, kL_r, isI_s, isR_s, isJ_s, gV_s, iV_i, cs0, cs1, cs2, cs3, cs4, dn_nil, kd_si, kd_sl, kd_sw, mr_si, mr_sl, mr_sw, ml_si, ml_sw, mi_sl, mk_277 H, mk_278 H, mk_279 H, mk_280 H, mk_281 H, mk_282 H, mk_283 H, mk_284 H, mk_285 H, mk_286 H, mk_287 H, mk_288 H, mk_289 H, mr_1 H, mr_11 H, mr_12 H, mr_13 H, mr_14 H, mr_15 H, mr_16 H, mr_17 H, mr_18 H, mr_19 H, mr_24 H, mr_25 H, mt_k, mt_r, mb_k, mb_r, mt_f, mq_P, mq_D, qw_D, f5, ↓if_pos z, if_pos z, a208, a288, b_1, n_1, b_2, n_2, ip_0, ip_1, ip_2, ip_3, ip_4, ip_5, ip_6, ip_7, ip_8, ip_9, ip_10, ip_11, ip_12, ip_13, ip_14, ip_15, ip_16, ip_17, ip_18, ip_19, ip_20, ip_21, ip_22, ip_23, ip_24, ip_25, in_0, in_1, in_2, in_3, in_4, in_5, in_6, in_7, in_8, in_9, ix_0, ix_1, ix_2, ix_3, ix_4, ix_5, ix_6, ix_7, ix_8, ix_9, ix_10, ix_11, ix_12, ix_13, ix_14, ix_15, ix_16, ix_17, ix_18, ix_19, ix_20, ix_21, ix_22, ix_23, ix_24, ix_25, gw, d9', s1]
  · show itF q.dr q.ni wv b.1.1 b.1.2 9 = Int32.ofNat (q.ni + 1)
    unfold itF
    rw [if_pos rfl]
  · show zu (zu (zu D5 (208 + q.ni) wv) (288 + q.ni) (Int32.ofNat b.1.1)) 9 (Int32.ofNat (q.ni + 1)) k = (if k = 9 then Int32.ofNat (q.ni + 1) else if k = 208 + q.ni then wv else if k = 288 + q.ni then Int32.ofNat b.1.1 else if 368 + 4 * q.ni ≤ k ∧ k < 372 + 4 * q.ni then b.1.2 (k - (368 + 4 * q.ni)) else q.dr k)
    by_cases c1 : k = 9
    · subst c1
      rw [zu_same, if_pos rfl]
    · rw [zu_o c1, if_neg c1]
      by_cases c3 : k = 288 + q.ni
      · rw [c3, zu_same, if_neg (by omega), if_pos rfl]
      · rw [zu_o c3]
        by_cases c2 : k = 208 + q.ni
        · rw [c2, zu_same, if_pos rfl]
        · rw [zu_o c2, if_neg c2, if_neg c3]
          by_cases c4 : 368 + 4 * q.ni ≤ k ∧ k < 372 + 4 * q.ni
          · rw [if_pos c4, ← V5.1 (k - (368 + 4 * q.ni)) (by omega)]
            congr 1
            omega
          · rw [if_neg c4, V5.2 k (by omega), cD k hk]
  · have a : 368 + 4 * (q.ni + 1) ≤ j := a
    show (if j = 9 then Int32.ofNat (q.ni + 1) else if j = 208 + q.ni then wv else if j = 288 + q.ni then Int32.ofNat _ else if 368 + 4 * q.ni ≤ j ∧ j < 372 + 4 * q.ni then _ else q.dr j) = 0
    rw [if_neg (by omega), if_neg (by omega), if_neg (by omega), if_neg (by omega)]
    exact cz j (by omega) b
theorem R_296 : PG.2.1 296 = none := rfl
theorem s_296 (H : MO h) (B : MTO h n T) (W : WMD h) (M : MS F w n T (.inr t)) (C : MRw q F N P D) : okM1 h n T F (pLn T n q t) (dM PG 296 [.ref 277] ((h.mb N P D).mt F w)) := by
  have g5 := s_333 (h := h.mb N P D) (p := 18) (i := 5) H (mb_to B) (mb_wm W) M rfl (by decide)
  have g6 := s_333 (h := h.mb N P D) (p := 20) (i := 6) H (mb_to B) (mb_wm W) M rfl (by decide)
  have g7 := s_333 (h := h.mb N P D) (p := 22) (i := 7) H (mb_to B) (mb_wm W) M rfl (by decide)
  have g12 := s_333 (h := h.mb N P D) (p := 34) (i := 12) H (mb_to B) (mb_wm W) M rfl (by decide)
  unfold pLn
  cases c5 : isK T t 5 with
  | true =>
    rw [c5, b2i_1] at g5
    rw [if_pos rfl]
    obtain ⟨F', w', N', P', D', g, k, r⟩ := s_334 H B M C
    refine ⟨F', w', N', P', D', ?_, k, r⟩
    rw [dM_of (Nat.le_of_ble_eq_true rfl)]
    simp -implicitDefEqProofs only [D_296_0, k_296_0, D_296_16, k_296_16, D_296_32, k_296_32, D_296_48, k_296_48, D_296_64, k_296_64, D_296_69, k_296_69, R_296, v_aload_n, g_ldc, v_callV2, aft_v, aft_n, g_if_eq, v_callV1, g_goto, g_iconst, g_return, entL, getL, setL, kL_i, kL_r, isI_s, isR_s, isJ_s, gV_s, iV_i, cs0, cs1, cs2, cs3, cs4, dn_nil, kd_si, kd_sl, kd_sw, mr_si, mr_sl, mr_sw, ml_si, ml_sw, mi_sl, mk_277 H, mk_278 H, mk_279 H, mk_280 H, mk_281 H, mk_282 H, mk_283 H, mk_284 H, mk_285 H, mk_286 H, mk_287 H, mk_288 H, mk_289 H, mr_1 H, mr_11 H, mr_12 H, mr_13 H, mr_14 H, mr_15 H, mr_16 H, mr_17 H, mr_18 H, mr_19 H, mr_24 H, mr_25 H, mt_k, mb_k, g5, ↓if_neg z_1, if_neg z_1, g]
  | false =>
  rw [c5, b2i_0] at g5
  rw [if_neg Bool.false_ne_true]
  cases c6 : isK T t 6 with
  | true =>
    rw [c6, b2i_1] at g6
    rw [if_pos rfl]
    obtain ⟨F', w', N', P', D', g, k, r⟩ := s_335 H B M C
    refine ⟨F', w', N', P', D', ?_, k, r⟩
    rw [dM_of (Nat.le_of_ble_eq_true rfl)]
    simp -implicitDefEqProofs only [D_296_0, k_296_0, D_296_16, k_296_16, D_296_32, k_296_32, D_296_48, k_296_48, D_296_64, k_296_64, D_296_69, k_296_69, R_296, v_aload_n, g_ldc, v_callV2, aft_v, aft_n, g_if_eq, v_callV1, g_goto, g_iconst, g_return, entL, getL, setL, kL_i, kL_r, isI_s, isR_s, isJ_s, gV_s, iV_i, cs0, cs1, cs2, cs3, cs4, dn_nil, kd_si, kd_sl, kd_sw, mr_si, mr_sl, mr_sw, ml_si, ml_sw, mi_sl, mk_277 H, mk_278 H, mk_279 H, mk_280 H, mk_281 H, mk_282 H, mk_283 H, mk_284 H, mk_285 H, mk_286 H, mk_287 H, mk_288 H, mk_289 H, mr_1 H, mr_11 H, mr_12 H, mr_13 H, mr_14 H, mr_15 H, mr_16 H, mr_17 H, mr_18 H, mr_19 H, mr_24 H, mr_25 H, mt_k, mb_k, g5, ↓if_true, if_true, g6, ↓if_neg z_1, if_neg z_1, g]
  | false =>
  rw [c6, b2i_0] at g6
  rw [if_neg Bool.false_ne_true]
  cases c7 : isK T t 7 with
  | true =>
    rw [c7, b2i_1] at g7
    rw [if_pos rfl]
    obtain ⟨F', w', N', P', D', g, k, r⟩ := s_336 H B W M C
    refine ⟨F', w', N', P', D', ?_, k, r⟩
    rw [dM_of (Nat.le_of_ble_eq_true rfl)]
    simp -implicitDefEqProofs only [D_296_0, k_296_0, D_296_16, k_296_16, D_296_32, k_296_32, D_296_48, k_296_48, D_296_64, k_296_64, D_296_69, k_296_69, R_296, v_aload_n, g_ldc, v_callV2, aft_v, aft_n, g_if_eq, v_callV1, g_goto, g_iconst, g_return, entL, getL, setL, kL_i, kL_r, isI_s, isR_s, isJ_s, gV_s, iV_i, cs0, cs1, cs2, cs3, cs4, dn_nil, kd_si, kd_sl, kd_sw, mr_si, mr_sl, mr_sw, ml_si, ml_sw, mi_sl, mk_277 H, mk_278 H, mk_279 H, mk_280 H, mk_281 H, mk_282 H, mk_283 H, mk_284 H, mk_285 H, mk_286 H, mk_287 H, mk_288 H, mk_289 H, mr_1 H, mr_11 H, mr_12 H, mr_13 H, mr_14 H, mr_15 H, mr_16 H, mr_17 H, mr_18 H, mr_19 H, mr_24 H, mr_25 H, mt_k, mb_k, g5, ↓if_true, if_true, g6, g7, ↓if_neg z_1, if_neg z_1, g]
  | false =>
  rw [c7, b2i_0] at g7
  rw [if_neg Bool.false_ne_true]
  cases c12 : isK T t 12 with
  | true =>
    rw [c12, b2i_1] at g12
    rw [if_pos rfl]
    obtain ⟨F', w', N', P', D', g, k, r⟩ := s_337 H B W M C
    refine ⟨F', w', N', P', D', ?_, k, r⟩
    rw [dM_of (Nat.le_of_ble_eq_true rfl)]
    simp -implicitDefEqProofs only [D_296_0, k_296_0, D_296_16, k_296_16, D_296_32, k_296_32, D_296_48, k_296_48, D_296_64, k_296_64, D_296_69, k_296_69, R_296, v_aload_n, g_ldc, v_callV2, aft_v, aft_n, g_if_eq, v_callV1, g_goto, g_iconst, g_return, entL, getL, setL, kL_i, kL_r, isI_s, isR_s, isJ_s, gV_s, iV_i, cs0, cs1, cs2, cs3, cs4, dn_nil, kd_si, kd_sl, kd_sw, mr_si, mr_sl, mr_sw, ml_si, ml_sw, mi_sl, mk_277 H, mk_278 H, mk_279 H, mk_280 H, mk_281 H, mk_282 H, mk_283 H, mk_284 H, mk_285 H, mk_286 H, mk_287 H, mk_288 H, mk_289 H, mr_1 H, mr_11 H, mr_12 H, mr_13 H, mr_14 H, mr_15 H, mr_16 H, mr_17 H, mr_18 H, mr_19 H, mr_24 H, mr_25 H, mt_k, mb_k, g5, ↓if_true, if_true, g6, g7, g12, ↓if_neg z_1, if_neg z_1, g]
  | false =>
  rw [c12, b2i_0] at g12
  rw [if_neg Bool.false_ne_true]
  have g := m_297 (h := h.mb N P D) (x := 1) (w := w) H M.2.2.2.1
  obtain ⟨⟨i1, i2, i3, i4, i5, i6⟩, cP, cD, cN, c23, cz⟩ := C
  refine ⟨_, w, N, P, D, ?_, keepG.of kf_rep, ms_rep (k := 1) (x := 1) M (by decide) (by decide), ⟨q.ns, i2, by rw [cP 7 (by decide), i5]⟩, ⟨q.ni, i3, by rw [cD 9 (by decide), i6]⟩⟩
  rw [dM_of (Nat.le_of_ble_eq_true rfl)]
  simp -implicitDefEqProofs only [D_296_0, k_296_0, D_296_16, k_296_16, D_296_32, k_296_32, D_296_48, k_296_48, D_296_64, k_296_64, D_296_69, k_296_69, R_296, v_aload_n, g_ldc, v_callV2, aft_v, aft_n, g_if_eq, v_callV1, g_goto, g_iconst, g_return, entL, getL, setL, kL_i, kL_r, isI_s, isR_s, isJ_s, gV_s, iV_i, cs0, cs1, cs2, cs3, cs4, dn_nil, kd_si, kd_sl, kd_sw, mr_si, mr_sl, mr_sw, ml_si, ml_sw, mi_sl, mk_277 H, mk_278 H, mk_279 H, mk_280 H, mk_281 H, mk_282 H, mk_283 H, mk_284 H, mk_285 H, mk_286 H, mk_287 H, mk_288 H, mk_289 H, mr_1 H, mr_11 H, mr_12 H, mr_13 H, mr_14 H, mr_15 H, mr_16 H, mr_17 H, mr_18 H, mr_19 H, mr_24 H, mr_25 H, mt_k, mb_k, g5, ↓if_true, if_true, g6, g7, g12, g]
end MPE
