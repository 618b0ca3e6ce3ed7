-- ===== load of the model =====
/-- what the model's calls leave alone -/
def FrM (h h' : Mm) : Prop := h'.1 = h.1 ∧ h'.kd = h.kd ∧ h'.mr = h.mr ∧ ∀ a, a < 277 ∨ 289 < a → h'.mi a = h.mi a ∧ h'.ml a = h.ml a
theorem FrM.rf {h : Mm} : FrM h h := ⟨rfl, rfl, rfl, fun _ _ => ⟨rfl, rfl⟩⟩
theorem FrM.tr {h h1 h2 : Mm} (A : FrM h h1) (B : FrM h1 h2) : FrM h h2 := ⟨B.1.trans A.1, B.2.1.trans A.2.1, B.2.2.1.trans A.2.2.1, fun a ha => ⟨(B.2.2.2 a ha).1.trans (A.2.2.2 a ha).1, (B.2.2.2 a ha).2.trans (A.2.2.2 a ha).2⟩⟩
theorem FrM.si {h : Mm} {a k : Nat} {v : Int32} (h1 : 277 ≤ a) (h2 : a ≤ 289) : FrM h (h.si a k v) := ⟨rfl, rfl, rfl, fun b hb => ⟨mi_sa (by omega), rfl⟩⟩
theorem FrM.sw {h : Mm} {a : Nat} {F : Nat → Int32} (h1 : 277 ≤ a) (h2 : a ≤ 289) : FrM h (h.sw a F) := ⟨rfl, rfl, rfl, fun b hb => ⟨mi_swo (by omega), rfl⟩⟩
theorem MO_fr {h h' : Mm} (A : FrM h h') (H : MO h) : MO h' := by
  obtain ⟨-, k, r, -⟩ := A
  unfold MO
  rw [k, r]
  exact H
def Mm.xl (h : Mm) (a : Nat) (N : Nat → Int64) : Mm := (h.1, h.2.1, h.mi, zu h.ml a N, h.mr)
theorem FrM.xl {h : Mm} {a : Nat} {N : Nat → Int64} (h1 : 277 ≤ a) (h2 : a ≤ 289) : FrM h (h.xl a N) := ⟨rfl, rfl, rfl, fun b hb => ⟨rfl, zu_o (by omega)⟩⟩
theorem xl_k {h : Mm} {a : Nat} {N : Nat → Int64} : (h.xl a N).kd = h.kd := rfl
theorem xl_r {h : Mm} {a : Nat} {N : Nat → Int64} : (h.xl a N).mr = h.mr := rfl
theorem xl_l {h : Mm} {a : Nat} {N : Nat → Int64} : (h.xl a N).ml a = N := zu_same
theorem xl_o {h : Mm} {a b : Nat} {N : Nat → Int64} (hb : b ≠ a) : (h.xl a N).ml b = h.ml b := zu_o hb
theorem xl_sl {h : Mm} {a k : Nat} {N : Nat → Int64} {v : Int64} : (h.xl a N).sl a k v = h.xl a (zu N k v) := by
  refine mm_ext rfl rfl rfl ?_ rfl
  show zu2 (zu h.ml a N) a k v = zu h.ml a (zu N k v)
  funext b
  by_cases e : b = a
  · subst e
    have z : zu2 (zu h.ml b N) b k v b = zu (zu h.ml b N b) k v := if_pos rfl
    rw [z, zu_same, zu_same]
  · rw [z2_o e, zu_o e, zu_o e]
theorem xl_id {h : Mm} {a : Nat} : h.xl a (h.ml a) = h := by
  refine mm_ext rfl rfl rfl ?_ rfl
  exact zu_id rfl
theorem mb_id {h : Mm} : h.mb (h.ml 282) (h.mi 280) (h.mi 284) = h := by
  refine mm_ext rfl rfl ?_ ?_ rfl
  · show zu (zu h.mi 280 (h.mi 280)) 284 (h.mi 284) = h.mi
    rw [zu_id (f := h.mi) rfl, zu_id rfl]
  · exact zu_id rfl
theorem FrM.mb {h : Mm} {N : Nat → Int64} {P D F : Nat → Int32} {w : Int64} : FrM h ((h.mb N P D).mt F w) := by
  refine ⟨rfl, rfl, rfl, fun b hb => ⟨?_, ?_⟩⟩
  · rw [mt_o (by omega), mb_o (by omega) (by omega)]
  · show zu2 (zu h.ml 282 N) 277 10 w b = h.ml b
    rw [z2_o (by omega), zu_o (by omega)]
def upL (n : Nat) (f g : Nat → Int64) : Nat → Int64 := fun k => if k < n then f k else g k
theorem upL_s {k : Nat} {f g : Nat → Int64} : zu (upL k f g) k (f k) = upL (k + 1) f g := by
  funext j
  unfold zu upL
  by_cases c : j = k
  · rw [if_pos c, if_pos (by omega), c]
  · rw [if_neg c]
    by_cases c2 : j < k
    · rw [if_pos c2, if_pos (by omega)]
    · rw [if_neg c2, if_neg (by omega)]
theorem upI_s {k : Nat} {f g : Nat → Int32} : zu (upto k f g) k (f k) = upto (k + 1) f g := by
  funext j
  unfold zu upto
  by_cases c : j = k
  · rw [if_pos c, if_pos (by omega), c]
  · rw [if_neg c]
    by_cases c2 : j < k
    · rw [if_pos c2, if_pos (by omega)]
    · rw [if_neg c2, if_neg (by omega)]
section LDM
variable {h M : Mm} {n : Nat} {T : Nat → Nat} {tl : Lc}
theorem R_129 : PG.2.1 129 = (some .int) := rfl
theorem l_129a (H : MO M) {v : Int32} : ∃ tl', dB PG 129 80 (some (.ref 277) :: some (.int v) :: some (.int (Int32.ofNat 0)) :: tl) [] M = dB PG 129 104 (some (.ref 277) :: some (.int v) :: some (.int (Int32.ofNat 26)) :: tl') [] (M.sw 279 (upto 26 (M.mi 280) (M.mi 279))) := by
  obtain ⟨tl', e⟩ := lm (P := PG) (y := 129) (pc := 80) (n := 26) (o := 0) (h := fun k => M.sw 279 (upto k (M.mi 280) (M.mi 279))) (L := fun k tl => some (.ref 277) :: some (.int v) :: some (.int (Int32.ofNat k)) :: tl) (by
    intro k tl _ hk
    refine ⟨tl, ?_⟩
    have z : ¬ (26 : Int32) ≤ Int32.ofNat k := Int32.not_le.mpr (i32_lt_lit (b := 26) (by decide) hk)
    have s1 : Int32.ofNat (k) + 1 = Int32.ofNat (k + 1) := i32_add (b := 1)
    have b_1 : inb (Int32.ofNat (k)) 26 = true := inb_nat (by omega) (by decide)
    have n_1 : (Int32.ofNat (k)).toNatClampNeg = k := i32_nat (by omega)
    rw [D_129_80]
    simp -implicitDefEqProofs only [k_129_80, k_129_104, v_iload_n, g_bipush, g_icmp_ge, v_aload_n, g_getfield, sv_a, rf_s, g_getfieldS, v_iaload, inI_0, v_iastore, wrI_0, v_iinc, g_goto, g_iconst, g_istore_n, entL, getL, setL, kL_i, kL_r, isI_s, isR_s, isJ_s, gV_s, iV_i, cs0, cs1, cs2, cs3, cs4, dn_nil, kd_si, kd_sl, kd_sw, mr_si, mr_sl, mr_sw, ml_si, ml_sw, mi_sl, mk_277 H, mk_278 H, mk_279 H, mk_280 H, mk_281 H, mk_282 H, mk_283 H, mk_284 H, mk_285 H, mk_286 H, mk_287 H, mk_288 H, mk_289 H, mr_1 H, mr_11 H, mr_12 H, mr_13 H, mr_14 H, mr_15 H, mr_16 H, mr_17 H, mr_18 H, mr_19 H, mr_24 H, mr_25 H, kd_sw, mr_sw, ↓if_neg z, if_neg z, b_1, n_1, mi_swo (show (280 : Nat) ≠ 279 by decide), si_sw (a := 279), mi_sw, sw_sw, upI_s, s1]) 26 0 tl (Nat.zero_le 0) (by omega)
  have z : (26 : Int32) ≤ Int32.ofNat 26 := by decide
  have e : dB PG 129 80 (some (.ref 277) :: some (.int v) :: some (.int (Int32.ofNat 0)) :: tl) [] (M.sw 279 (upto 0 (M.mi 280) (M.mi 279))) = dB PG 129 80 (some (.ref 277) :: some (.int v) :: some (.int (Int32.ofNat 26)) :: tl') [] (M.sw 279 (upto 26 (M.mi 280) (M.mi 279))) := e
  have z0 : upto 0 (M.mi 280) (M.mi 279) = M.mi 279 := by
    funext j
    exact if_neg (Nat.not_lt_zero j)
  rw [z0, sw_id] at e
  refine ⟨tl', ?_⟩
  rw [e, D_129_80]
  simp -implicitDefEqProofs only [k_129_80, k_129_104, v_iload_n, g_bipush, g_icmp_ge, v_aload_n, g_getfield, sv_a, rf_s, g_getfieldS, v_iaload, inI_0, v_iastore, wrI_0, v_iinc, g_goto, g_iconst, g_istore_n, entL, getL, setL, kL_i, kL_r, isI_s, isR_s, isJ_s, gV_s, iV_i, cs0, cs1, cs2, cs3, cs4, dn_nil, kd_si, kd_sl, kd_sw, mr_si, mr_sl, mr_sw, ml_si, ml_sw, mi_sl, mk_277 H, mk_278 H, mk_279 H, mk_280 H, mk_281 H, mk_282 H, mk_283 H, mk_284 H, mk_285 H, mk_286 H, mk_287 H, mk_288 H, mk_289 H, mr_1 H, mr_11 H, mr_12 H, mr_13 H, mr_14 H, mr_15 H, mr_16 H, mr_17 H, mr_18 H, mr_19 H, mr_24 H, mr_25 H, kd_sw, mr_sw, ↓if_pos z, if_pos z]
theorem l_129b (H : MO M) {v : Int32} : ∃ tl', dB PG 129 106 (some (.ref 277) :: some (.int v) :: some (.int (Int32.ofNat 0)) :: tl) [] M = dB PG 129 129 (some (.ref 277) :: some (.int v) :: some (.int (Int32.ofNat 4)) :: tl') [] (M.xl 281 (upL 4 (M.ml 282) (M.ml 281))) := by
  obtain ⟨tl', e⟩ := lm (P := PG) (y := 129) (pc := 106) (n := 4) (o := 0) (h := fun k => M.xl 281 (upL k (M.ml 282) (M.ml 281))) (L := fun k tl => some (.ref 277) :: some (.int v) :: some (.int (Int32.ofNat k)) :: tl) (by
    intro k tl _ hk
    refine ⟨tl, ?_⟩
    have z : ¬ (4 : Int32) ≤ Int32.ofNat k := Int32.not_le.mpr (i32_lt_lit (b := 4) (by decide) hk)
    have s1 : Int32.ofNat (k) + 1 = Int32.ofNat (k + 1) := i32_add (b := 1)
    have b_1 : inb (Int32.ofNat (k)) 4 = true := inb_nat (by omega) (by decide)
    have n_1 : (Int32.ofNat (k)).toNatClampNeg = k := i32_nat (by omega)
    rw [D_129_106]
    simp -implicitDefEqProofs only [k_129_106, k_129_129, R_129, v_iload_n, g_iconst, g_icmp_ge, v_aload_n, g_getfield, sv_a, rf_s, g_getfieldS, v_laload, inJ_0, v_lastore, v_iinc, g_goto, g_put_z, g_put_i, g_bipush, v_iaload, inI_0, g_ireturn, entL, getL, setL, kL_i, kL_r, isI_s, isR_s, isJ_s, gV_s, iV_i, cs0, cs1, cs2, cs3, cs4, dn_nil, kd_si, kd_sl, kd_sw, mr_si, mr_sl, mr_sw, ml_si, ml_sw, mi_sl, mk_277 H, mk_278 H, mk_279 H, mk_280 H, mk_281 H, mk_282 H, mk_283 H, mk_284 H, mk_285 H, mk_286 H, mk_287 H, mk_288 H, mk_289 H, mr_1 H, mr_11 H, mr_12 H, mr_13 H, mr_14 H, mr_15 H, mr_16 H, mr_17 H, mr_18 H, mr_19 H, mr_24 H, mr_25 H, xl_k, xl_r, ↓if_neg z, if_neg z, b_1, n_1, xl_o (show (282 : Nat) ≠ 281 by decide), xl_sl, upL_s, s1]) 4 0 tl (Nat.zero_le 0) (by omega)
  have z : (4 : Int32) ≤ Int32.ofNat 4 := by decide
  have e : dB PG 129 106 (some (.ref 277) :: some (.int v) :: some (.int (Int32.ofNat 0)) :: tl) [] (M.xl 281 (upL 0 (M.ml 282) (M.ml 281))) = dB PG 129 106 (some (.ref 277) :: some (.int v) :: some (.int (Int32.ofNat 4)) :: tl') [] (M.xl 281 (upL 4 (M.ml 282) (M.ml 281))) := e
  have z0 : upL 0 (M.ml 282) (M.ml 281) = M.ml 281 := by
    funext j
    exact if_neg (Nat.not_lt_zero j)
  rw [z0, xl_id] at e
  refine ⟨tl', ?_⟩
  rw [e, D_129_106]
  simp -implicitDefEqProofs only [k_129_106, k_129_129, R_129, v_iload_n, g_iconst, g_icmp_ge, v_aload_n, g_getfield, sv_a, rf_s, g_getfieldS, v_laload, inJ_0, v_lastore, v_iinc, g_goto, g_put_z, g_put_i, g_bipush, v_iaload, inI_0, g_ireturn, entL, getL, setL, kL_i, kL_r, isI_s, isR_s, isJ_s, gV_s, iV_i, cs0, cs1, cs2, cs3, cs4, dn_nil, kd_si, kd_sl, kd_sw, mr_si, mr_sl, mr_sw, ml_si, ml_sw, mi_sl, mk_277 H, mk_278 H, mk_279 H, mk_280 H, mk_281 H, mk_282 H, mk_283 H, mk_284 H, mk_285 H, mk_286 H, mk_287 H, mk_288 H, mk_289 H, mr_1 H, mr_11 H, mr_12 H, mr_13 H, mr_14 H, mr_15 H, mr_16 H, mr_17 H, mr_18 H, mr_19 H, mr_24 H, mr_25 H, xl_k, xl_r, ↓if_pos z, if_pos z]
theorem m_129x {v : Int32} (H : MO h) (c : inF v 0 (h.mi 277 2) = 0) : dM PG 129 [.ref 277, .int v] h = some (.inl (some (.int 0)), h.si 277 0 1) := by
  have c2 : (h.si 277 0 0).mi 277 2 = h.mi 277 2 := mi_sk (by decide)
  have g := m_156 (x := 1) (h := h.si 277 0 0) H
  rw [si_si] at g
  rw [dM_of (Nat.le_of_ble_eq_true rfl)]
  simp -implicitDefEqProofs only [D_129_0, k_129_0, k_129_23, R_129, v_aload_n, g_iconst, g_put_i, v_iload_n, g_getfield, sv_i, rf_s, g_getfieldS, v_callS3, aft_v, aft_n, g_if_ne, v_callV2, g_ireturn, v_callV1, g_if_le, entL, getL, setL, kL_i, kL_r, isI_s, isR_s, isJ_s, gV_s, iV_i, cs0, cs1, cs2, cs3, cs4, dn_nil, kd_si, kd_sl, kd_sw, mr_si, mr_sl, mr_sw, ml_si, ml_sw, mi_sl, mk_277 H, mk_278 H, mk_279 H, mk_280 H, mk_281 H, mk_282 H, mk_283 H, mk_284 H, mk_285 H, mk_286 H, mk_287 H, mk_288 H, mk_289 H, mr_1 H, mr_11 H, mr_12 H, mr_13 H, mr_14 H, mr_15 H, mr_16 H, mr_17 H, mr_18 H, mr_19 H, mr_24 H, mr_25 H, kd_si, c2, m_136, c, ↓if_true, if_true, g, retX_int]
def okL1 (h h' : Mm) (x : PE Ps) (v : Int32) : Prop := match x with
  | .inl e => v = 0 ∧ (h'.mi 277 0 = 2 ∧ h'.mi 277 2 = 0 ∧ h'.mi 277 5 = Int32.ofNat e.1 ∧ h'.mi 277 6 = Int32.ofNat e.2 ∧ ∀ j, 10 < j → j ≠ 23 → h'.mi 277 j = h.mi 277 j) ∧ (∀ a, 277 < a → a ≠ 280 → a ≠ 284 → h'.mi a = h.mi a) ∧ h'.ml 281 = h.ml 281
  | .inr q => v = Int32.ofNat q.ni ∧ (h'.mi 277 0 = 0 ∧ h'.mi 277 2 = 0 ∧ h'.mi 277 5 = 0 ∧ h'.mi 277 6 = -1 ∧ h'.mi 277 20 = 0 ∧ h'.mi 277 21 = 1 ∧ h'.mi 277 22 = 0 ∧ h'.mi 277 26 = h.mi 277 26) ∧ (∀ a, 277 < a → a ≠ 279 → a ≠ 280 → a ≠ 283 → a ≠ 284 → h'.mi a = h.mi a) ∧ (q.st ≤ 4 ∧ q.ns ≤ 4 ∧ q.ni ≤ 60 ∧ q.pl 16 = Int32.ofNat q.st ∧ q.pl 7 = Int32.ofNat q.ns ∧ q.dr 9 = Int32.ofNat q.ni) ∧ (∀ k, k < 26 → h'.mi 279 k = q.pl k) ∧ (∀ k, k < 1168 → h'.mi 283 k = enR q.dr q.pl q.ns q.ni 80 k) ∧ NMM (h'.ml 281) q.ns q.nm
theorem s_129 (H : MO h) (B : MTO h n T) (W : WMD h) (c : inF (Int32.ofNat n) 0 (h.mi 277 2) = 1) : ∃ h' v, dM PG 129 [.ref 277, .int (Int32.ofNat n)] h = some (.inl (some (.int v)), h') ∧ FrM h h' ∧ okL1 h h' (pTx T n) v := by
  obtain ⟨G, eG⟩ : ∃ G, G = zu (zu (zu (zu (zu (zu (h.mi 277) 0 0) 3 (Int32.ofNat n)) 2 0) 4 0) 5 0) 6 (-1) := ⟨_, rfl⟩
  have G0 : G 0 = 0 := by rw [eG, zu_o (by decide), zu_o (by decide), zu_o (by decide), zu_o (by decide), zu_o (by decide), zu_same]
  have G2 : G 2 = 0 := by rw [eG, zu_o (by decide), zu_o (by decide), zu_o (by decide), zu_same]
  have G3 : G 3 = Int32.ofNat n := by rw [eG, zu_o (by decide), zu_o (by decide), zu_o (by decide), zu_o (by decide), zu_same]
  have G4 : G 4 = 0 := by rw [eG, zu_o (by decide), zu_o (by decide), zu_same]
  have G5 : G 5 = 0 := by rw [eG, zu_o (by decide), zu_same]
  have G6 : G 6 = -1 := by rw [eG, zu_same]
  have Gj : ∀ j, 6 < j → G j = h.mi 277 j := fun j hj => by
    rw [eG, zu_o (by omega), zu_o (by omega), zu_o (by omega), zu_o (by omega), zu_o (by omega), zu_o (by omega)]
  obtain ⟨F, w, N, P, D, g, k, R⟩ := s_227 (N := h.ml 282) (P := h.mi 280) (D := h.mi 284) (F := G) (w := h.ml 277 10) H B W G3 G4 G5 G6
  rw [mb_id] at g
  have F0 : F 0 = 0 := (k 0 (by omega) (by decide)).trans G0
  have F2 : F 2 = 0 := (k 2 (by omega) (by decide)).trans G2
  have Fj : ∀ j, 10 < j → j ≠ 23 → F j = h.mi 277 j := fun j hj h3 => (k j (by omega) h3).trans (Gj j (by omega))
  have e1 : dM PG 129 [.ref 277, .int (Int32.ofNat n)] h = dB PG 129 23 [some (.ref 277), some (.int (Int32.ofNat n))] [] (h.mt (zu (h.mi 277) 0 0) (h.ml 277 10)) := by
    have eh := mt_id (h := h)
    have c2 : (h.si 277 0 0).mi 277 2 = h.mi 277 2 := mi_sk (by decide)
    have e2 : h.si 277 0 0 = h.mt (zu (h.mi 277) 0 0) (h.ml 277 10) := by
      have := mt_si (h := h) (F := h.mi 277) (w := h.ml 277 10) (k := 0) (v := 0)
      rw [eh] at this
      exact this
    rw [dM_of (Nat.le_of_ble_eq_true rfl)]
    simp -implicitDefEqProofs only [D_129_0, k_129_0, k_129_23, R_129, v_aload_n, g_iconst, g_put_i, v_iload_n, g_getfield, sv_i, rf_s, g_getfieldS, v_callS3, aft_v, aft_n, g_if_ne, v_callV2, g_ireturn, v_callV1, g_if_le, entL, getL, setL, kL_i, kL_r, isI_s, isR_s, isJ_s, gV_s, iV_i, cs0, cs1, cs2, cs3, cs4, dn_nil, kd_si, kd_sl, kd_sw, mr_si, mr_sl, mr_sw, ml_si, ml_sw, mi_sl, mk_277 H, mk_278 H, mk_279 H, mk_280 H, mk_281 H, mk_282 H, mk_283 H, mk_284 H, mk_285 H, mk_286 H, mk_287 H, mk_288 H, mk_289 H, mr_1 H, mr_11 H, mr_12 H, mr_13 H, mr_14 H, mr_15 H, mr_16 H, mr_17 H, mr_18 H, mr_19 H, mr_24 H, mr_25 H, kd_si, c2, m_136, c, ↓if_neg z_1, if_neg z_1]
    rw [e2]
  have e2 : ∀ tl v, dB PG 129 23 (some (.ref 277) :: some (.int v) :: tl) [] (h.mt (zu (h.mi 277) 0 0) (h.ml 277 10)) = dB PG 129 23 (some (.ref 277) :: some (.int v) :: tl) [] (h.mt (zu (h.mi 277) 0 0) (h.ml 277 10)) := fun _ _ => rfl
  obtain ⟨M, eM⟩ : ∃ M, M = (h.mb N P D).mt F w := ⟨_, rfl⟩
  have HM : MO M := by rw [eM]; exact H
  have fM : FrM h M := by rw [eM]; exact FrM.mb
  have m277 : M.mi 277 = F := by rw [eM]; exact mt_f
  have mo : ∀ a, 277 < a → a ≠ 280 → a ≠ 284 → M.mi a = h.mi a := fun a a1 a2 a3 => by
    rw [eM, mt_o (by omega), mb_o a2 a3]
  have m281 : M.ml 281 = h.ml 281 := by
    rw [eM]
    show zu2 (zu h.ml 282 N) 277 10 w 281 = h.ml 281
    rw [z2_o (by decide), zu_o (by decide)]
  have g : dM PG 227 [.ref 277] (h.mt (zu (zu (zu (zu (zu (zu (h.mi 277) 0 0) 3 (Int32.ofNat n)) 2 0) 4 0) 5 0) 6 (-1)) (h.ml 277 10)) = some (.inl none, M) := by
    rw [← eG, eM]
    exact g
  rw [e1, D_129_23]
  cases ex : pTx T n with
  | inl e =>
    rw [ex] at R
    obtain ⟨r1, r2, r3, r4⟩ := R
    have n5 : ¬ F 5 ≤ 0 := by
      rw [r3]
      show ¬ Int32.ofNat e.1 ≤ Int32.ofNat 0
      rw [i32_le (by omega) (by omega)]; omega
    have g2 := m_156 (x := 2) (h := M) HM
    refine ⟨M.si 277 0 2, 0, ?_, fM.tr (FrM.si (by decide) (by decide)), rfl, ⟨mi_ss, ?_, ?_, ?_, fun j hj h3 => ?_⟩, fun a a1 a2 a3 => ?_, m281⟩
    · simp -implicitDefEqProofs only [k_129_0, k_129_23, k_129_65, R_129, v_aload_n, g_iconst, g_put_i, v_iload_n, g_getfield, sv_i, rf_s, g_getfieldS, v_callS3, aft_v, aft_n, g_if_ne, v_callV2, g_ireturn, v_callV1, g_if_le, sv_a, v_callS4, g_istore_n, entL, getL, setL, kL_i, kL_r, isI_s, isR_s, isJ_s, gV_s, iV_i, cs0, cs1, cs2, cs3, cs4, dn_nil, kd_si, kd_sl, kd_sw, mr_si, mr_sl, mr_sw, ml_si, ml_sw, mi_sl, mk_277 H, mk_278 H, mk_279 H, mk_280 H, mk_281 H, mk_282 H, mk_283 H, mk_284 H, mk_285 H, mk_286 H, mk_287 H, mk_288 H, mk_289 H, mr_1 H, mr_11 H, mr_12 H, mr_13 H, mr_14 H, mr_15 H, mr_16 H, mr_17 H, mr_18 H, mr_19 H, mr_24 H, mr_25 H, mt_k, mt_si, g, mk_277 HM, mk_278 HM, mk_279 HM, mk_280 HM, mk_281 HM, mk_282 HM, mk_283 HM, mk_284 HM, mk_285 HM, mk_286 HM, mk_287 HM, mk_288 HM, mk_289 HM, mr_1 HM, mr_11 HM, mr_12 HM, mr_13 HM, mr_14 HM, mr_15 HM, mr_16 HM, mr_17 HM, mr_18 HM, mr_19 HM, mr_24 HM, mr_25 HM, m277, ↓if_neg n5, if_neg n5, g2, retX_int]
    · rw [mi_sk (by decide), m277, F2]
    · rw [mi_sk (by decide), m277, r3]
    · rw [mi_sk (by decide), m277, r4]
    · rw [mi_sk (by omega), m277, Fj j hj h3]
    · rw [mi_sa (by omega), mo a a1 a2 a3]
  | inr q =>
    rw [ex] at R
    obtain ⟨⟨r1, r2⟩, ii, cP, cD, cN⟩ := R
    have z : (0 : Int32) ≤ 0 := by decide
    have mP : M.mi 280 = P := by rw [eM]; rfl
    have mD : M.mi 284 = D := by rw [eM]; rfl
    have mN : M.ml 282 = N := by rw [eM]; rfl
    have g2 := m_150 (p := 284) (q := 283) (a := 0) (w := 0) (np := 1168) (nq := 1168) (by decide) (by decide) (by decide) (by decide) (by decide) (h := M) (mk_284 HM) (mk_283 HM)
    rw [va_cpy_all, mD] at g2
    obtain ⟨M1, eM1⟩ : ∃ M1, M1 = M.sw 283 (fun j => if j < 1168 then D j else M.mi 283 j) := ⟨_, rfl⟩
    rw [← eM1] at g2
    have g2 : dM PG 150 [.ref 284, .int 0, .ref 283, .int 0] M = some (.inl none, M1) := g2
    have f1 : FrM M M1 := by rw [eM1]; exact FrM.sw (by decide) (by decide)
    have H1 := MO_fr f1 HM
    have e3 := l_129a (M := M1) (tl := []) (v := Int32.ofNat n) H1
    obtain ⟨tl3, e3⟩ := e3
    obtain ⟨M2, eM2⟩ : ∃ M2, M2 = M1.sw 279 (upto 26 (M1.mi 280) (M1.mi 279)) := ⟨_, rfl⟩
    rw [← eM2] at e3
    have f2 : FrM M1 M2 := by rw [eM2]; exact FrM.sw (by decide) (by decide)
    have H2 := MO_fr f2 H1
    obtain ⟨tl4, e4⟩ := l_129b (M := M2) (tl := tl3) (v := Int32.ofNat n) H2
    obtain ⟨M3, eM3⟩ : ∃ M3, M3 = M2.xl 281 (upL 4 (M2.ml 282) (M2.ml 281)) := ⟨_, rfl⟩
    rw [← eM3] at e4
    have f3 : FrM M2 M3 := by rw [eM3]; exact FrM.xl (by decide) (by decide)
    have H3 := MO_fr f3 H2
    have i3 : ∀ a, a ≠ 279 → a ≠ 283 → M3.mi a = M.mi a := fun a a1 a2 => by
      rw [eM3]
      show M2.mi a = M.mi a
      rw [eM2, mi_swo a1, eM1, mi_swo a2]
    have i283 : M3.mi 283 = fun j => if j < 1168 then D j else M.mi 283 j := by
      rw [eM3]
      show M2.mi 283 = _
      rw [eM2, mi_swo (by decide), eM1, mi_sw]
    have i279 : M3.mi 279 = upto 26 P (M1.mi 279) := by
      rw [eM3]
      show M2.mi 279 = _
      rw [eM2, mi_sw, eM1, mi_swo (by decide), mP]
    have l281 : M3.ml 281 = upL 4 N (M2.ml 281) := by
      rw [eM3, xl_l]
      have : M2.ml 282 = N := by
        rw [eM2, eM1]
        exact mN
      rw [this]
    have e5 : dB PG 129 104 (some (.ref 277) :: some (.int (Int32.ofNat n)) :: some (.int (Int32.ofNat 26)) :: tl3) [] M2 = dB PG 129 106 (some (.ref 277) :: some (.int (Int32.ofNat n)) :: some (.int (Int32.ofNat 0)) :: tl3) [] M2 := by
      rw [D_129_104]
      simp -implicitDefEqProofs only [k_129_104, k_129_106, g_iconst, g_istore_n, v_iload_n, g_icmp_ge, v_aload_n, g_getfield, sv_a, rf_s, g_getfieldS, v_laload, inJ_0, v_lastore, v_iinc, g_goto, entL, getL, setL, kL_i, kL_r, isI_s, isR_s, isJ_s, gV_s, iV_i, cs0, cs1, cs2, cs3, cs4, dn_nil, kd_si, kd_sl, kd_sw, mr_si, mr_sl, mr_sw, ml_si, ml_sw, mi_sl, kL_n]
      rfl
    have d9 : D 9 = Int32.ofNat q.ni := by
      rw [cD 9 (by decide), enR_o (by decide) (by decide)]
      exact ii.2.2.2.2.2
    have r9 : (((M3.si 277 21 1).si 277 22 0).si 277 20 0).mi 283 9 = Int32.ofNat q.ni := by
      rw [mi_sa (by decide), mi_sa (by decide), mi_sa (by decide), i283]
      show (if 9 < 1168 then D 9 else _) = _
      rw [if_pos (by decide), d9]
    have ed : dB PG 129 129 (some (.ref 277) :: some (.int (Int32.ofNat n)) :: some (.int (Int32.ofNat 4)) :: tl4) [] M3 = some (.inl (some (.int (Int32.ofNat q.ni))), ((M3.si 277 21 1).si 277 22 0).si 277 20 0) := by
      rw [D_129_129]
      simp -implicitDefEqProofs only [k_129_129, R_129, v_aload_n, g_iconst, g_put_z, g_put_i, g_getfield, sv_a, rf_s, g_getfieldS, g_bipush, v_iaload, inI_0, g_ireturn, entL, getL, setL, kL_i, kL_r, isI_s, isR_s, isJ_s, gV_s, iV_i, cs0, cs1, cs2, cs3, cs4, dn_nil, kd_si, kd_sl, kd_sw, mr_si, mr_sl, mr_sw, ml_si, ml_sw, mi_sl, mk_277 H3, mk_278 H3, mk_279 H3, mk_280 H3, mk_281 H3, mk_282 H3, mk_283 H3, mk_284 H3, mk_285 H3, mk_286 H3, mk_287 H3, mk_288 H3, mk_289 H3, mr_1 H3, mr_11 H3, mr_12 H3, mr_13 H3, mr_14 H3, mr_15 H3, mr_16 H3, mr_17 H3, mr_18 H3, mr_19 H3, mr_24 H3, mr_25 H3, kd_si, mr_si, g_put_z0, g_put_z1, in_0, in_1, in_2, in_3, in_4, in_5, in_6, in_7, in_8, in_9, ix_0, ix_1, ix_2, ix_3, ix_4, ix_5, ix_6, ix_7, ix_8, ix_9, ix_10, ix_11, ix_12, ix_13, ix_14, ix_15, ix_16, ix_17, ix_18, ix_19, ix_20, ix_21, ix_22, ix_23, ix_24, ix_25, r9, retX_int]
    refine ⟨((M3.si 277 21 1).si 277 22 0).si 277 20 0, Int32.ofNat q.ni, ?_, ((((((fM.tr f1).tr f2).tr f3).tr (FrM.si (by decide) (by decide))).tr (FrM.si (by decide) (by decide))).tr (FrM.si (by decide) (by decide))), rfl, ⟨?_, ?_, ?_, ?_, mi_ss, ?_, ?_, ?_⟩, fun a a1 a2 a3 a4 a5 => ?_, ii, fun k hk => ?_, fun k hk => ?_, fun k hk => ?_⟩
    · have ee : dB PG 129 80 (some (.ref 277) :: some (.int (Int32.ofNat n)) :: some (.int (Int32.ofNat 0)) :: []) [] M1 = some (.inl (some (.int (Int32.ofNat q.ni))), ((M3.si 277 21 1).si 277 22 0).si 277 20 0) := by
        rw [e3, e5, e4, ed]
      have ee : dB PG 129 80 (some (.ref 277) :: some (.int (Int32.ofNat n)) :: some (.int 0) :: []) [] M1 = some (.inl (some (.int (Int32.ofNat q.ni))), ((M3.si 277 21 1).si 277 22 0).si 277 20 0) := ee
      simp -implicitDefEqProofs only [k_129_0, k_129_23, D_129_65, k_129_65, k_129_80, R_129, v_aload_n, g_iconst, g_put_i, v_iload_n, g_getfield, sv_i, rf_s, g_getfieldS, v_callS3, aft_v, aft_n, g_if_ne, v_callV2, g_ireturn, v_callV1, g_if_le, sv_a, v_callS4, g_istore_n, g_bipush, g_icmp_ge, v_iaload, inI_0, v_iastore, wrI_0, v_iinc, g_goto, entL, getL, setL, kL_i, kL_r, isI_s, isR_s, isJ_s, gV_s, iV_i, cs0, cs1, cs2, cs3, cs4, dn_nil, kd_si, kd_sl, kd_sw, mr_si, mr_sl, mr_sw, ml_si, ml_sw, mi_sl, mk_277 H, mk_278 H, mk_279 H, mk_280 H, mk_281 H, mk_282 H, mk_283 H, mk_284 H, mk_285 H, mk_286 H, mk_287 H, mk_288 H, mk_289 H, mr_1 H, mr_11 H, mr_12 H, mr_13 H, mr_14 H, mr_15 H, mr_16 H, mr_17 H, mr_18 H, mr_19 H, mr_24 H, mr_25 H, mt_k, mt_si, g, mk_277 HM, mk_278 HM, mk_279 HM, mk_280 HM, mk_281 HM, mk_282 HM, mk_283 HM, mk_284 HM, mk_285 HM, mk_286 HM, mk_287 HM, mk_288 HM, mk_289 HM, mr_1 HM, mr_11 HM, mr_12 HM, mr_13 HM, mr_14 HM, mr_15 HM, mr_16 HM, mr_17 HM, mr_18 HM, mr_19 HM, mr_24 HM, mr_25 HM, m277, r1, ↓if_pos z, if_pos z, g2, ee]
    · rw [mi_sk (by decide), mi_sk (by decide), mi_sk (by decide), i3 277 (by decide) (by decide), m277, F0]
    · rw [mi_sk (by decide), mi_sk (by decide), mi_sk (by decide), i3 277 (by decide) (by decide), m277, F2]
    · rw [mi_sk (by decide), mi_sk (by decide), mi_sk (by decide), i3 277 (by decide) (by decide), m277, r1]
    · rw [mi_sk (by decide), mi_sk (by decide), mi_sk (by decide), i3 277 (by decide) (by decide), m277, r2]
    · rw [mi_sk (by decide), mi_sk (by decide), mi_ss]
    · rw [mi_sk (by decide), mi_ss]
    · rw [mi_sk (by decide), mi_sk (by decide), mi_sk (by decide), i3 277 (by decide) (by decide), m277, Fj 26 (by decide) (by decide)]
    · rw [mi_sa (by omega), mi_sa (by omega), mi_sa (by omega), i3 a a2 a4, mo a a1 a3 a5]
    · rw [mi_sa (by decide), mi_sa (by decide), mi_sa (by decide), i279]
      show (if k < 26 then P k else _) = _
      rw [if_pos hk, cP k hk]
    · rw [mi_sa (by decide), mi_sa (by decide), mi_sa (by decide), i283]
      show (if k < 1168 then D k else _) = _
      rw [if_pos hk, cD k hk]
    · show (M3.ml 281) k = _ ∧ _
      have n4 := ii.2.1
      rw [l281]
      have : upL 4 N (M2.ml 281) k = N k := if_pos (by omega)
      rw [this]
      exact cN k hk
end LDM
