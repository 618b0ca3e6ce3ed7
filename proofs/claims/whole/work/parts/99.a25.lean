-- ===== the model's parser: grader, ice and stop lines =====
def Mm.mb (h : Mm) (N : Nat → Int64) (P D : Nat → Int32) : Mm := (h.1, h.2.1, zu (zu h.mi 280 P) 284 D, zu h.ml 282 N, h.mr)
section MB
variable {h : Mm} {n : Nat} {T : Nat → Nat} {F : Nat → Int32} {w : Int64} {N : Nat → Int64} {P D : Nat → Int32}
theorem mb_k : (h.mb N P D).kd = h.kd := rfl
theorem mb_r : (h.mb N P D).mr = h.mr := rfl
theorem mb_P : (h.mb N P D).mi 280 = P := rfl
theorem mb_N : (h.mb N P D).ml 282 = N := rfl
theorem mq_P : ((h.mb N P D).mt F w).mi 280 = P := rfl
theorem mq_D : ((h.mb N P D).mt F w).mi 284 = D := rfl
theorem mq_N : ((h.mb N P D).mt F w).ml 282 = N := rfl
theorem mb_o {a : Nat} (h1 : a ≠ 280) (h2 : a ≠ 284) : (h.mb N P D).mi a = h.mi a := by
  show zu (zu h.mi 280 P) 284 D a = h.mi a
  rw [zu_o h2, zu_o h1]
theorem mb_to (B : MTO h n T) : MTO (h.mb N P D) n T := B
theorem mb_mo (H : MO h) : MO (h.mb N P D) := H
theorem mb_str {p q m : Nat} {ch : Nat → Nat} (S : STR h p q m ch) (hp : p < 200) (hq : q < 200) : STR (h.mb N P D) p q m ch := by
  obtain ⟨s1, s2, s3, s4, s5⟩ := S
  refine ⟨s1, ?_, s3, s4, fun k hk => ?_⟩
  · rw [mb_o (by omega) (by omega), s2]
  · rw [mb_o (by omega) (by omega)]; exact s5 k hk
theorem mb_wm (W : WMD h) : WMD (h.mb N P D) := by
  refine ⟨fun i hi => ⟨mb_str (W.1 i hi).1 ?_ ?_, (W.1 i hi).2⟩, mb_str W.2.1 (by decide) (by decide), W.2.2⟩
  · unfold mI
    split <;> omega
  · unfold mI
    split <;> omega
theorem qx_P {Q : Nat → Int32} : ((h.mb N P D).mt F w).sw 280 Q = (h.mb N Q D).mt F w := by
  refine mm_ext rfl rfl ?_ rfl rfl
  funext a
  show (if a = 280 then Q else if a = 277 then F else if a = 284 then D else if a = 280 then P else h.mi a) = (if a = 277 then F else if a = 284 then D else if a = 280 then Q else h.mi a)
  by_cases e0 : a = 280
  · rw [if_pos e0, if_neg (by omega), if_neg (by omega), if_pos e0]
  · rw [if_neg e0, if_neg e0, if_neg e0]
theorem qx_D {Q : Nat → Int32} : ((h.mb N P D).mt F w).sw 284 Q = (h.mb N P Q).mt F w := by
  refine mm_ext rfl rfl ?_ rfl rfl
  funext a
  show (if a = 284 then Q else if a = 277 then F else if a = 284 then D else if a = 280 then P else h.mi a) = (if a = 277 then F else if a = 284 then Q else if a = 280 then P else h.mi a)
  by_cases e0 : a = 284
  · rw [if_pos e0, if_neg (by omega), if_pos e0]
  · rw [if_neg e0, if_neg e0, if_neg e0]
theorem qw_P {k : Nat} {v : Int32} : ((h.mb N P D).mt F w).si 280 k v = (h.mb N (zu P k v) D).mt F w := by
  rw [si_sw (a := 280), mq_P, qx_P]
theorem qw_D {k : Nat} {v : Int32} : ((h.mb N P D).mt F w).si 284 k v = (h.mb N P (zu D k v)).mt F w := by
  rw [si_sw (a := 284), mq_D, qx_D]
theorem qw_N {k : Nat} {v : Int64} : ((h.mb N P D).mt F w).sl 282 k v = (h.mb (zu N k v) P D).mt F w := by
  refine mm_ext rfl rfl rfl ?_ rfl
  show zu2 (zu2 (zu h.ml 282 N) 277 10 w) 282 k v = zu2 (zu h.ml 282 (zu N k v)) 277 10 w
  have z : ∀ (f : Nat → Nat → Int64) (a k : Nat) (v : Int64), zu2 f a k v a = zu (f a) k v := fun f a k v => if_pos rfl
  funext a
  by_cases e : a = 282
  · subst e
    rw [z, z2_o (by decide), zu_same, z2_o (by decide), zu_same]
  · rw [z2_o e]
    by_cases e2 : a = 277
    · subst e2
      rw [z, z, zu_o (by decide), zu_o (by decide)]
    · rw [z2_o e2, z2_o e2, zu_o e, zu_o e]
end MB
/-- what was read, and the model's rows -/
def MRw (q : Ps) (F : Nat → Int32) (N : Nat → Int64) (P D : Nat → Int32) : Prop := (q.st ≤ 4 ∧ q.ns ≤ 4 ∧ q.ni ≤ 60 ∧ q.pl 16 = Int32.ofNat q.st ∧ q.pl 7 = Int32.ofNat q.ns ∧ q.dr 9 = Int32.ofNat q.ni) ∧ (∀ k, k < 26 → P k = q.pl k) ∧ (∀ k, k < 1168 → D k = q.dr k) ∧ NMM N q.ns q.nm ∧ F 23 = b2i q.ic ∧ ∀ j, 368 + 4 * q.ni ≤ j → j < 688 → q.dr j = 0
def keepG (F F' : Nat → Int32) : Prop := ∀ j, j < 4 ∨ 9 < j → j ≠ 23 → F' j = F j
theorem keepG.of {F F' : Nat → Int32} (k : keepF F F') : keepG F F' := fun j hj _ => k j hj
theorem keepG.tr {F F' F2 : Nat → Int32} (a : keepG F F') (b : keepG F' F2) : keepG F F2 := fun j hj h3 => (b j hj h3).trans (a j hj h3)
/-- after an error the rows are of no account, but for two counts -/
def BD (P D : Nat → Int32) : Prop := (∃ a, a ≤ 4 ∧ P 7 = Int32.ofNat a) ∧ ∃ b, b ≤ 60 ∧ D 9 = Int32.ofNat b
def okM2 (n : Nat) (T : Nat → Nat) (x : PE (Ps × Tok)) (F : Nat → Int32) (w : Int64) (N : Nat → Int64) (P D : Nat → Int32) : Prop := match x with
  | .inl e => MS F w n T (.inl e) ∧ BD P D
  | .inr y => MS F w n T (.inr y.2) ∧ MRw y.1 F N P D
def okM1 (h : Mm) (n : Nat) (T : Nat → Nat) (F : Nat → Int32) (x : PE (Ps × Tok)) (o : Option Rs) : Prop := ∃ F' w' N' P' D', o = some (.inl none, (h.mb N' P' D').mt F' w') ∧ keepG F F' ∧ okM2 n T x F' w' N' P' D'
theorem sd_l {A : Type} {e : Nat × Nat} : sdE (A := A) (.inl e) = .inl e := rfl
theorem sd_r {A : Type} {a : A × Tok} : sdE (.inr a) = .inr a.2 := rfl
theorem vl_l {lo : Nat} {e : Nat × Nat} : vlE lo (.inl e) = lo := rfl
theorem vl_r {lo : Nat} {a : Nat × Tok} : vlE lo (.inr a) = a.1 := rfl
theorem ms_23 {n : Nat} {T : Nat → Nat} {F : Nat → Int32} {w : Int64} {x : PE Tok} {v : Int32} (M : MS F w n T x) : MS (zu F 23 v) w n T x := by
  cases x with
  | inl e =>
    obtain ⟨a, b, c, d⟩ := M
    exact ⟨a, b, (zu_o (by decide)).trans c, (zu_o (by decide)).trans d⟩
  | inr t =>
    obtain ⟨⟨a1, a2, a3, a4, a5, a6⟩, b, c, d, e⟩ := M
    exact ⟨⟨(zu_o (by decide)).trans a1, (zu_o (by decide)).trans a2, (zu_o (by decide)).trans a3, (zu_o (by decide)).trans a4, fun q => (zu_o (by decide)).trans (a5 q), a6⟩, b, c, (zu_o (by decide)).trans d, (zu_o (by decide)).trans e⟩
theorem vl_le {T : Nat → Nat} {n lo hi : Nat} {x : PE Tok} (h : lo ≤ hi) : lo ≤ vlE lo (pB x (pNu T n lo hi)) ∧ vlE lo (pB x (pNu T n lo hi)) ≤ hi := by
  cases x with
  | inl e => exact ⟨Nat.le_refl _, h⟩
  | inr t =>
    rw [pB_r]
    unfold pNu
    split
    · rename_i c
      rw [vl_r]
      unfold nuE at c
      split at c
      · split at c
        · cases c
        · show lo ≤ t.2.2.2 ∧ t.2.2.2 ≤ hi
          omega
      · cases c
    · exact ⟨Nat.le_refl _, h⟩
section GR
variable (T : Nat → Nat) (n : Nat) (t : Tok)
def gr1 : PE Tok := pKw T n 0 t
def gr2 : PE (Nat × Tok) := pB (gr1 T n t) (pNm T n 1 1 9999)
def gr3 : PE (Nat × Tok) := pB (sdE (gr2 T n t)) (pNm T n 2 0 99)
def gr4 : PE (Nat × Tok) := pB (sdE (gr3 T n t)) (pNm T n 3 0 9999)
def gr5 : PE (Nat × Tok) := pB (sdE (gr4 T n t)) (pNm T n 4 0 10)
end GR
theorem pGr_x {T : Nat → Nat} {n : Nat} {t : Tok} : pGr T n t = pB (sdE (gr5 T n t)) fun t' => .inr ((zu (zu (zu (fun _ => 0) 0 (Int32.ofNat (vlE 1 (gr2 T n t)))) 1 (Int32.ofNat (vlE 0 (gr3 T n t)))) 2 (Int32.ofNat (vlE 0 (gr5 T n t))), zu (fun _ => 0) 2 (Int32.ofNat (vlE 0 (gr4 T n t))), fun _ => (0, fun _ => 0), false, 0, 0, 0), t') := by
  unfold pGr gr5 gr4 gr3 gr2 gr1
  cases pKw T n 0 t with
  | inl e => rfl
  | inr a0 =>
    simp only [pB_r]
    cases pNm T n 1 1 9999 a0 with
    | inl e => rfl
    | inr a1 =>
      simp only [pB_r, sd_r, vl_r]
      cases pNm T n 2 0 99 a1.2 with
      | inl e => rfl
      | inr a2 =>
        simp only [pB_r, sd_r, vl_r]
        cases pNm T n 3 0 9999 a2.2 with
        | inl e => rfl
        | inr a3 =>
          simp only [pB_r, sd_r, vl_r]
          cases pNm T n 4 0 10 a3.2 with
          | inl e => rfl
          | inr a4 => rfl
section MPC
variable {h : Mm} {n : Nat} {T : Nat → Nat} {F : Nat → Int32} {w : Int64} {N : Nat → Int64} {P D : Nat → Int32} {t : Tok} {q : Ps}
theorem R_295 : PG.2.1 295 = none := rfl
theorem s_295 (H : MO h) (B : MTO h n T) (W : WMD h) (M : MS F w n T (.inr t)) (hP : ∀ k, k < 26 → P k = 0) (hD : ∀ k, k < 1168 → D k = 0) (f23 : F 23 = 0) : okM1 h n T F (pGr T n t) (dM PG 295 [.ref 277] ((h.mb N P D).mt F w)) := by
  obtain ⟨F1, w1, g1, M1, k1⟩ := s_331 (h := h.mb N (zu P 0 1) (D)) (p := 8) (i := 0) H (mb_to B) (mb_wm W) M rfl (by decide)
  have M1 : MS F1 w1 n T (gr1 T n t) := M1
  obtain ⟨F2, w2, g2, M2, k2⟩ := s_332 (h := h.mb N (zu P 0 1) (D)) (p := 10) (i := 1) (lo := 1) (hi := 9999) H (mb_to B) (mb_wm W) M1 rfl (by decide) (by decide) (by decide)
  have M2 : MS F2 w2 n T (sdE (gr2 T n t)) := M2
  have g2 : dM PG 332 [.ref 277, .ref 10, .int 1, .int 9999] ((h.mb N (zu P 0 1) (D)).mt F1 w1) = some (.inl (some (.int (Int32.ofNat (vlE 1 (gr2 T n t))))), (h.mb N (zu P 0 1) (D)).mt F2 w2) := g2
  obtain ⟨v2, e2⟩ : ∃ v, v = Int32.ofNat (vlE 1 (gr2 T n t)) := ⟨_, rfl⟩
  rw [← e2] at g2
  obtain ⟨F3, w3, g3, M3, k3⟩ := s_332 (h := h.mb N (zu (zu P 0 1) 0 v2) (D)) (p := 12) (i := 2) (lo := 0) (hi := 99) H (mb_to B) (mb_wm W) M2 rfl (by decide) (by decide) (by decide)
  have M3 : MS F3 w3 n T (sdE (gr3 T n t)) := M3
  have g3 : dM PG 332 [.ref 277, .ref 12, .int 0, .int 99] ((h.mb N (zu (zu P 0 1) 0 v2) (D)).mt F2 w2) = some (.inl (some (.int (Int32.ofNat (vlE 0 (gr3 T n t))))), (h.mb N (zu (zu P 0 1) 0 v2) (D)).mt F3 w3) := g3
  obtain ⟨v3, e3⟩ : ∃ v, v = Int32.ofNat (vlE 0 (gr3 T n t)) := ⟨_, rfl⟩
  rw [← e3] at g3
  obtain ⟨F4, w4, g4, M4, k4⟩ := s_332 (h := h.mb N (zu (zu (zu P 0 1) 0 v2) 1 v3) (D)) (p := 14) (i := 3) (lo := 0) (hi := 9999) H (mb_to B) (mb_wm W) M3 rfl (by decide) (by decide) (by decide)
  have M4 : MS F4 w4 n T (sdE (gr4 T n t)) := M4
  have g4 : dM PG 332 [.ref 277, .ref 14, .int 0, .int 9999] ((h.mb N (zu (zu (zu P 0 1) 0 v2) 1 v3) (D)).mt F3 w3) = some (.inl (some (.int (Int32.ofNat (vlE 0 (gr4 T n t))))), (h.mb N (zu (zu (zu P 0 1) 0 v2) 1 v3) (D)).mt F4 w4) := g4
  obtain ⟨v4, e4⟩ : ∃ v, v = Int32.ofNat (vlE 0 (gr4 T n t)) := ⟨_, rfl⟩
  rw [← e4] at g4
  obtain ⟨F5, w5, g5, M5, k5⟩ := s_332 (h := h.mb N (zu (zu (zu P 0 1) 0 v2) 1 v3) (zu D 2 v4)) (p := 16) (i := 4) (lo := 0) (hi := 10) H (mb_to B) (mb_wm W) M4 rfl (by decide) (by decide) (by decide)
  have M5 : MS F5 w5 n T (sdE (gr5 T n t)) := M5
  have g5 : dM PG 332 [.ref 277, .ref 16, .int 0, .int 10] ((h.mb N (zu (zu (zu P 0 1) 0 v2) 1 v3) (zu D 2 v4)).mt F4 w4) = some (.inl (some (.int (Int32.ofNat (vlE 0 (gr5 T n t))))), (h.mb N (zu (zu (zu P 0 1) 0 v2) 1 v3) (zu D 2 v4)).mt F5 w5) := g5
  obtain ⟨v5, e5⟩ : ∃ v, v = Int32.ofNat (vlE 0 (gr5 T n t)) := ⟨_, rfl⟩
  rw [← e5] at g5
  refine ⟨F5, w5, N, zu (zu (zu (zu P 0 1) 0 v2) 1 v3) 2 v5, zu D 2 v4, ?_, ((((keepG.of k1).tr (keepG.of k2)).tr (keepG.of k3)).tr (keepG.of k4)).tr (keepG.of k5), ?_⟩
  · rw [dM_of (Nat.le_of_ble_eq_true rfl)]
    simp -implicitDefEqProofs only [D_295_0, k_295_0, R_295, v_aload_n, g_getfield, sv_a, rf_s, g_getfieldS, g_iconst, v_iastore, wrI_0, g_ldc, v_callV2, aft_v, aft_n, g_sipush, v_callV4, g_bipush, g_return, entL, getL, setL, kL_i, kL_r, isI_s, isR_s, isJ_s, gV_s, iV_i, cs0, cs1, cs2, cs3, cs4, dn_nil, kd_si, kd_sl, kd_sw, mr_si, mr_sl, mr_sw, ml_si, ml_sw, mi_sl, mk_277 H, mk_278 H, mk_279 H, mk_280 H, mk_281 H, mk_282 H, mk_283 H, mk_284 H, mk_285 H, mk_286 H, mk_287 H, mk_288 H, mk_289 H, mr_1 H, mr_11 H, mr_12 H, mr_13 H, mr_14 H, mr_15 H, mr_16 H, mr_17 H, mr_18 H, mr_19 H, mr_24 H, mr_25 H, mt_k, mt_r, mb_k, mb_r, ip_0, ip_1, ip_2, ip_3, ip_4, ip_5, ip_6, ip_7, ip_8, ip_9, ip_10, ip_11, ip_12, ip_13, ip_14, ip_15, ip_16, ip_17, ip_18, ip_19, ip_20, ip_21, ip_22, ip_23, ip_24, ip_25, ix_0, ix_1, ix_2, ix_3, ix_4, ix_5, ix_6, ix_7, ix_8, ix_9, ix_10, ix_11, ix_12, ix_13, ix_14, ix_15, ix_16, ix_17, ix_18, ix_19, ix_20, ix_21, ix_22, ix_23, ix_24, ix_25, in_2, qw_P, qw_D, g1, g2, g3, g4, g5]
  · rw [pGr_x]
    generalize hx : sdE (gr5 T n t) = x5 at M5 ⊢
    cases x5 with
    | inl e =>
      rw [pB_l]
      refine ⟨M5, ⟨0, by decide, ?_⟩, ⟨0, by decide, ?_⟩⟩
      · rw [zu_o (by decide), zu_o (by decide), zu_o (by decide), zu_o (by decide)]
        exact hP 7 (by decide)
      · rw [zu_o (by decide)]
        exact hD 9 (by decide)
    | inr t' =>
      rw [pB_r, ← e2, ← e3, ← e4, ← e5]
      refine ⟨M5, ⟨Nat.zero_le _, Nat.zero_le _, Nat.zero_le _, rfl, rfl, rfl⟩, fun k hk => ?_, fun k hk => ?_, fun k hk => absurd hk (Nat.not_lt_zero _), ?_, fun j a b => ?_⟩
      · show zu (zu (zu (zu P 0 1) 0 v2) 1 v3) 2 v5 k = zu (zu (zu (fun _ => 0) 0 v2) 1 v3) 2 v5 k
        unfold zu
        by_cases c2 : k = 2
        · rw [if_pos c2, if_pos c2]
        · rw [if_neg c2, if_neg c2]
          by_cases c1 : k = 1
          · rw [if_pos c1, if_pos c1]
          · rw [if_neg c1, if_neg c1]
            by_cases c0 : k = 0
            · rw [if_pos c0, if_pos c0]
            · rw [if_neg c0, if_neg c0, if_neg c0, hP k hk]
      · show zu D 2 v4 k = zu (fun _ => 0) 2 v4 k
        unfold zu
        by_cases c2 : k = 2
        · rw [if_pos c2, if_pos c2]
        · rw [if_neg c2, if_neg c2, hD k hk]
      · show F5 23 = 0
        rw [k5 23 (by omega), k4 23 (by omega), k3 23 (by omega), k2 23 (by omega), k1 23 (by omega), f23]
      · show zu (fun _ => 0) 2 v4 j = 0
        have a : 368 + 4 * 0 ≤ j := a
        rw [zu_o (by omega)]
end MPC
section IC
variable (T : Nat → Nat) (n : Nat) (b : Bool) (t : Tok)
def ic0 : PE Tok := if b = true then .inl (4, t.1) else .inr t
def ic1 : PE Tok := pB (ic0 b t) fun t => .inr (tok T n t.2.1)
def ic2 : PE (Nat × Tok) := pB (ic1 T n b t) (pNu T n 0 200)
def ic3 : PE (Nat × Tok) := pB (sdE (ic2 T n b t)) (pNu T n 0 9999)
def ic4 : PE (Nat × Tok) := pB (sdE (ic3 T n b t)) (pNu T n 0 99999)
def ic5 : PE (Nat × Tok) := pB (sdE (ic4 T n b t)) (pNu T n 0 99)
def ic6 : PE (Nat × Tok) := pB (sdE (ic5 T n b t)) (pNu T n 0 50)
end IC
theorem pIc_x {T : Nat → Nat} {n : Nat} {q : Ps} {t : Tok} : pIc T n q t = pB (sdE (ic6 T n q.ic t)) fun t' => .inr ((zu (zu (zu (zu (zu q.pl 3 (Int32.ofNat (vlE 0 (ic2 T n q.ic t)))) 4 (Int32.ofNat (vlE 0 (ic3 T n q.ic t)))) 5 (Int32.ofNat (vlE 0 (ic4 T n q.ic t)))) 6 (Int32.ofNat (vlE 0 (ic5 T n q.ic t)))) 25 (Int32.ofNat (vlE 0 (ic6 T n q.ic t))), q.dr, q.nm, true, q.st, q.ns, q.ni), t') := by
  unfold pIc ic6 ic5 ic4 ic3 ic2 ic1 ic0
  cases q.ic with
  | true => rfl
  | false =>
    rw [if_neg Bool.false_ne_true, if_neg Bool.false_ne_true]
    simp only [pB_r]
    cases pNu T n 0 200 (tok T n t.2.1) with
    | inl e => rfl
    | inr a0 =>
      simp only [pB_r, sd_r, vl_r]
      cases pNu T n 0 9999 a0.2 with
      | inl e => rfl
      | inr a1 =>
        simp only [pB_r, sd_r, vl_r]
        cases pNu T n 0 99999 a1.2 with
        | inl e => rfl
        | inr a2 =>
          simp only [pB_r, sd_r, vl_r]
          cases pNu T n 0 99 a2.2 with
          | inl e => rfl
          | inr a3 =>
            simp only [pB_r, sd_r, vl_r]
            cases pNu T n 0 50 a3.2 with
            | inl e => rfl
            | inr a4 => rfl
section MPC
variable {h : Mm} {n : Nat} {T : Nat → Nat} {F : Nat → Int32} {w : Int64} {N : Nat → Int64} {P D : Nat → Int32} {t : Tok} {q : Ps}
theorem R_334 : PG.2.1 334 = none := rfl
theorem s_334 (H : MO h) (B : MTO h n T) (M : MS F w n T (.inr t)) (C : MRw q F N P D) : okM1 h n T F (pIc T n q t) (dM PG 334 [.ref 277] ((h.mb N P D).mt F w)) := by
  obtain ⟨⟨i1, i2, i3, i4, i5, i6⟩, cP, cD, cN, c23, cz⟩ := C
  have e0 : ∃ F0, dM PG 334 [.ref 277] ((h.mb N P D).mt F w) = dB PG 334 12 [some (.ref 277)] [] ((h.mb N P D).mt F0 w) ∧ MS F0 w n T (ic0 q.ic t) ∧ keepF F F0 := by
    cases c : q.ic with
    | true =>
      rw [c, b2i_1] at c23
      have g := m_297 (h := h.mb N P D) (x := 4) (w := w) H M.2.2.2.1
      refine ⟨_, ?_, ms_rep (k := 4) (x := 4) M (by decide) (by decide), kf_rep⟩
      rw [dM_of (Nat.le_of_ble_eq_true rfl)]
      simp -implicitDefEqProofs only [D_334_0, k_334_0, k_334_12, R_334, v_aload_n, g_getfield, sv_z, rf_s, g_getfieldS, g_if_eq, g_iconst, v_callV2, aft_v, aft_n, v_callV1, sv_a, g_sipush, v_callV3, v_iastore, wrI_0, g_ldc, g_bipush, g_put_z, g_return, entL, getL, setL, kL_i, kL_r, isI_s, isR_s, isJ_s, gV_s, iV_i, cs0, cs1, cs2, cs3, cs4, dn_nil, kd_si, kd_sl, kd_sw, mr_si, mr_sl, mr_sw, ml_si, ml_sw, mi_sl, mk_277 H, mk_278 H, mk_279 H, mk_280 H, mk_281 H, mk_282 H, mk_283 H, mk_284 H, mk_285 H, mk_286 H, mk_287 H, mk_288 H, mk_289 H, mr_1 H, mr_11 H, mr_12 H, mr_13 H, mr_14 H, mr_15 H, mr_16 H, mr_17 H, mr_18 H, mr_19 H, mr_24 H, mr_25 H, mt_k, mb_k, mt_f, c23, ↓if_neg z_1, if_neg z_1, g]
    | false =>
      rw [c, b2i_0] at c23
      refine ⟨F, ?_, M, keepF.rf⟩
      rw [dM_of (Nat.le_of_ble_eq_true rfl)]
      simp -implicitDefEqProofs only [D_334_0, k_334_0, k_334_12, R_334, v_aload_n, g_getfield, sv_z, rf_s, g_getfieldS, g_if_eq, g_iconst, v_callV2, aft_v, aft_n, v_callV1, sv_a, g_sipush, v_callV3, v_iastore, wrI_0, g_ldc, g_bipush, g_put_z, g_return, entL, getL, setL, kL_i, kL_r, isI_s, isR_s, isJ_s, gV_s, iV_i, cs0, cs1, cs2, cs3, cs4, dn_nil, kd_si, kd_sl, kd_sw, mr_si, mr_sl, mr_sw, ml_si, ml_sw, mi_sl, mk_277 H, mk_278 H, mk_279 H, mk_280 H, mk_281 H, mk_282 H, mk_283 H, mk_284 H, mk_285 H, mk_286 H, mk_287 H, mk_288 H, mk_289 H, mr_1 H, mr_11 H, mr_12 H, mr_13 H, mr_14 H, mr_15 H, mr_16 H, mr_17 H, mr_18 H, mr_19 H, mr_24 H, mr_25 H, mt_k, mb_k, mt_f, c23, ↓if_true, if_true]
  obtain ⟨F0, ed, M0, k0⟩ := e0
  obtain ⟨F1, w1, g1, M1, k1⟩ := s_294x (h := h.mb N P D) H (mb_to B) M0
  have M1 : MS F1 w1 n T (ic1 T n q.ic t) := M1
  obtain ⟨F2, w2, g2, M2, k2⟩ := s_357 (h := h.mb N (P) (D)) (lo := 0) (hi := 200) H (mb_to B) M1 (by decide) (by decide)
  have M2 : MS F2 w2 n T (sdE (ic2 T n q.ic t)) := M2
  have g2 : dM PG 357 [.ref 277, .int 0, .int 200] ((h.mb N (P) (D)).mt F1 w1) = some (.inl (some (.int (Int32.ofNat (vlE (0) (ic2 T n q.ic t))))), (h.mb N (P) (D)).mt F2 w2) := g2
  obtain ⟨v2, e2⟩ : ∃ v, v = Int32.ofNat (vlE (0) (ic2 T n q.ic t)) := ⟨_, rfl⟩
  rw [← e2] at g2
  obtain ⟨F3, w3, g3, M3, k3⟩ := s_357 (h := h.mb N (zu P 3 v2) (D)) (lo := 0) (hi := 9999) H (mb_to B) M2 (by decide) (by decide)
  have M3 : MS F3 w3 n T (sdE (ic3 T n q.ic t)) := M3
  have g3 : dM PG 357 [.ref 277, .int 0, .int 9999] ((h.mb N (zu P 3 v2) (D)).mt F2 w2) = some (.inl (some (.int (Int32.ofNat (vlE (0) (ic3 T n q.ic t))))), (h.mb N (zu P 3 v2) (D)).mt F3 w3) := g3
  obtain ⟨v3, e3⟩ : ∃ v, v = Int32.ofNat (vlE (0) (ic3 T n q.ic t)) := ⟨_, rfl⟩
  rw [← e3] at g3
  obtain ⟨F4, w4, g4, M4, k4⟩ := s_357 (h := h.mb N (zu (zu P 3 v2) 4 v3) (D)) (lo := 0) (hi := 99999) H (mb_to B) M3 (by decide) (by decide)
  have M4 : MS F4 w4 n T (sdE (ic4 T n q.ic t)) := M4
  have g4 : dM PG 357 [.ref 277, .int 0, .int 99999] ((h.mb N (zu (zu P 3 v2) 4 v3) (D)).mt F3 w3) = some (.inl (some (.int (Int32.ofNat (vlE (0) (ic4 T n q.ic t))))), (h.mb N (zu (zu P 3 v2) 4 v3) (D)).mt F4 w4) := g4
  obtain ⟨v4, e4⟩ : ∃ v, v = Int32.ofNat (vlE (0) (ic4 T n q.ic t)) := ⟨_, rfl⟩
  rw [← e4] at g4
  obtain ⟨F5, w5, g5, M5, k5⟩ := s_357 (h := h.mb N (zu (zu (zu P 3 v2) 4 v3) 5 v4) (D)) (lo := 0) (hi := 99) H (mb_to B) M4 (by decide) (by decide)
  have M5 : MS F5 w5 n T (sdE (ic5 T n q.ic t)) := M5
  have g5 : dM PG 357 [.ref 277, .int 0, .int 99] ((h.mb N (zu (zu (zu P 3 v2) 4 v3) 5 v4) (D)).mt F4 w4) = some (.inl (some (.int (Int32.ofNat (vlE (0) (ic5 T n q.ic t))))), (h.mb N (zu (zu (zu P 3 v2) 4 v3) 5 v4) (D)).mt F5 w5) := g5
  obtain ⟨v5, e5⟩ : ∃ v, v = Int32.ofNat (vlE (0) (ic5 T n q.ic t)) := ⟨_, rfl⟩
  rw [← e5] at g5
  obtain ⟨F6, w6, g6, M6, k6⟩ := s_357 (h := h.mb N (zu (zu (zu (zu P 3 v2) 4 v3) 5 v4) 6 v5) (D)) (lo := 0) (hi := 50) H (mb_to B) M5 (by decide) (by decide)
  have M6 : MS F6 w6 n T (sdE (ic6 T n q.ic t)) := M6
  have g6 : dM PG 357 [.ref 277, .int 0, .int 50] ((h.mb N (zu (zu (zu (zu P 3 v2) 4 v3) 5 v4) 6 v5) (D)).mt F5 w5) = some (.inl (some (.int (Int32.ofNat (vlE (0) (ic6 T n q.ic t))))), (h.mb N (zu (zu (zu (zu P 3 v2) 4 v3) 5 v4) 6 v5) (D)).mt F6 w6) := g6
  obtain ⟨v6, e6⟩ : ∃ v, v = Int32.ofNat (vlE (0) (ic6 T n q.ic t)) := ⟨_, rfl⟩
  rw [← e6] at g6
  refine ⟨zu F6 23 1, w6, N, zu (zu (zu (zu (zu P 3 v2) 4 v3) 5 v4) 6 v5) 25 v6, D, ?_, ?_, ?_⟩
  · rw [ed, D_334_12]
    simp -implicitDefEqProofs only [k_334_0, k_334_12, R_334, v_aload_n, g_getfield, sv_z, rf_s, g_getfieldS, g_if_eq, g_iconst, v_callV2, aft_v, aft_n, v_callV1, sv_a, g_sipush, v_callV3, v_iastore, wrI_0, g_ldc, g_bipush, g_put_z, g_return, entL, getL, setL, kL_i, kL_r, isI_s, isR_s, isJ_s, gV_s, iV_i, cs0, cs1, cs2, cs3, cs4, dn_nil, kd_si, kd_sl, kd_sw, mr_si, mr_sl, mr_sw, ml_si, ml_sw, mi_sl, mk_277 H, mk_278 H, mk_279 H, mk_280 H, mk_281 H, mk_282 H, mk_283 H, mk_284 H, mk_285 H, mk_286 H, mk_287 H, mk_288 H, mk_289 H, mr_1 H, mr_11 H, mr_12 H, mr_13 H, mr_14 H, mr_15 H, mr_16 H, mr_17 H, mr_18 H, mr_19 H, mr_24 H, mr_25 H, mt_k, mt_r, mb_k, mb_r, mt_si, ip_0, ip_1, ip_2, ip_3, ip_4, ip_5, ip_6, ip_7, ip_8, ip_9, ip_10, ip_11, ip_12, ip_13, ip_14, ip_15, ip_16, ip_17, ip_18, ip_19, ip_20, ip_21, ip_22, ip_23, ip_24, ip_25, ix_0, ix_1, ix_2, ix_3, ix_4, ix_5, ix_6, ix_7, ix_8, ix_9, ix_10, ix_11, ix_12, ix_13, ix_14, ix_15, ix_16, ix_17, ix_18, ix_19, ix_20, ix_21, ix_22, ix_23, ix_24, ix_25, qw_P, g_put_z1, g1, g2, g3, g4, g5, g6]
  · intro j hj h23
    rw [zu_o h23, k6 j hj, k5 j hj, k4 j hj, k3 j hj, k2 j hj, k1 j hj, k0 j hj]
  · rw [pIc_x]
    generalize hx : sdE (ic6 T n q.ic t) = x5 at M6 ⊢
    have oth : ∀ k, k ≠ 3 → k ≠ 4 → k ≠ 5 → k ≠ 6 → k ≠ 25 → (zu (zu (zu (zu (zu P 3 v2) 4 v3) 5 v4) 6 v5) 25 v6) k = P k := fun k a b c d e => by
      rw [zu_o e, zu_o d, zu_o c, zu_o b, zu_o a]
    cases x5 with
    | inl e =>
      rw [pB_l]
      refine ⟨ms_23 M6, ⟨q.ns, i2, ?_⟩, ⟨q.ni, i3, ?_⟩⟩
      · rw [oth 7 (by decide) (by decide) (by decide) (by decide) (by decide), cP 7 (by decide), i5]
      · rw [cD 9 (by decide), i6]
    | inr t' =>
      rw [pB_r, ← e2, ← e3, ← e4, ← e5, ← e6]
      refine ⟨ms_23 M6, ⟨i1, i2, i3, i4, i5, i6⟩, fun k hk => ?_, cD, cN, zu_same, cz⟩
      show (zu (zu (zu (zu (zu P 3 v2) 4 v3) 5 v4) 6 v5) 25 v6) k = zu (zu (zu (zu (zu q.pl 3 v2) 4 v3) 5 v4) 6 v5) 25 v6 k
      unfold zu
      rw [cP k hk]
end MPC
section SP
variable (T : Nat → Nat) (n s : Nat) (t : Tok)
def so0 : PE Tok := if 4 ≤ s then .inl (5, t.1) else .inr t
def so1 : PE Tok := pB (so0 s t) fun t => .inr (tok T n t.2.1)
def so2 : PE (Nat × Tok) := pB (so1 T n s t) (pNu T n 1 999)
def so3 : PE (Nat × Tok) := pB (sdE (so2 T n s t)) (pNu T n (vlE 1 (so2 T n s t)) 999)
end SP
theorem pSt_x {T : Nat → Nat} {n : Nat} {q : Ps} {t : Tok} : pSt T n q t = pB (sdE (so3 T n q.st t)) fun t' => .inr ((zu (zu (zu q.pl (17 + q.st) (Int32.ofNat (vlE 1 (so2 T n q.st t)))) (21 + q.st) (Int32.ofNat (vlE (vlE 1 (so2 T n q.st t)) (so3 T n q.st t)))) 16 (Int32.ofNat (q.st + 1)), q.dr, q.nm, q.ic, q.st + 1, q.ns, q.ni), t') := by
  unfold pSt so3 so2 so1 so0
  by_cases c : 4 ≤ q.st
  · rw [if_pos c, if_pos c]
    rfl
  · rw [if_neg c, if_neg c]
    simp only [pB_r]
    cases pNu T n 1 999 (tok T n t.2.1) with
    | inl e => rfl
    | inr a0 =>
      simp only [pB_r, sd_r, vl_r]
      cases pNu T n a0.1 999 a0.2 with
      | inl e => rfl
      | inr a1 => rfl
theorem so_4 {T : Nat → Nat} {n s : Nat} {t t' : Tok} (e : sdE (so3 T n s t) = .inr t') : s < 4 := by
  by_cases c : 4 ≤ s
  · unfold so3 so2 so1 so0 at e
    rw [if_pos c] at e
    cases e
  · omega
section MPC
variable {h : Mm} {n : Nat} {T : Nat → Nat} {F : Nat → Int32} {w : Int64} {N : Nat → Int64} {P D : Nat → Int32} {t : Tok} {q : Ps}
theorem R_335 : PG.2.1 335 = none := rfl
theorem s_335 (H : MO h) (B : MTO h n T) (M : MS F w n T (.inr t)) (C : MRw q F N P D) : okM1 h n T F (pSt T n q t) (dM PG 335 [.ref 277] ((h.mb N P D).mt F w)) := by
  obtain ⟨⟨i1, i2, i3, i4, i5, i6⟩, cP, cD, cN, c23, cz⟩ := C
  have p16 : P 16 = Int32.ofNat q.st := by rw [cP 16 (by decide), i4]
  have e0 : ∃ F0, dM PG 335 [.ref 277] ((h.mb N P D).mt F w) = dB PG 335 18 [some (.ref 277), some (.int (Int32.ofNat q.st))] [] ((h.mb N P D).mt F0 w) ∧ MS F0 w n T (so0 q.st t) ∧ keepF F F0 := by
    by_cases c : 4 ≤ q.st
    · have c4 : Int32.ofNat q.st = 4 := by
        rw [show q.st = 4 by omega]; rfl
      have g := m_297 (h := h.mb N P D) (x := 5) (w := w) H M.2.2.2.1
      unfold so0
      rw [if_pos c]
      refine ⟨_, ?_, ms_rep (k := 5) (x := 5) M (by decide) (by decide), kf_rep⟩
      rw [dM_of (Nat.le_of_ble_eq_true rfl)]
      simp -implicitDefEqProofs only [D_335_0, k_335_0, k_335_18, R_335, v_aload_n, g_getfield, sv_a, rf_s, g_getfieldS, g_bipush, v_iaload, inI_0, g_istore_n, v_iload_n, g_iconst, g_icmp_ne, v_callV2, aft_v, aft_n, v_callV1, g_sipush, v_callV3, sv_i, g_if_le, g_return, entL, getL, setL, kL_i, kL_r, isI_s, isR_s, isJ_s, gV_s, iV_i, cs0, cs1, cs2, cs3, cs4, dn_nil, kd_si, kd_sl, kd_sw, mr_si, mr_sl, mr_sw, ml_si, ml_sw, mi_sl, mk_277 H, mk_278 H, mk_279 H, mk_280 H, mk_281 H, mk_282 H, mk_283 H, mk_284 H, mk_285 H, mk_286 H, mk_287 H, mk_288 H, mk_289 H, mr_1 H, mr_11 H, mr_12 H, mr_13 H, mr_14 H, mr_15 H, mr_16 H, mr_17 H, mr_18 H, mr_19 H, mr_24 H, mr_25 H, mt_k, mt_r, mb_k, mb_r, ip_0, ip_1, ip_2, ip_3, ip_4, ip_5, ip_6, ip_7, ip_8, ip_9, ip_10, ip_11, ip_12, ip_13, ip_14, ip_15, ip_16, ip_17, ip_18, ip_19, ip_20, ip_21, ip_22, ip_23, ip_24, ip_25, ix_0, ix_1, ix_2, ix_3, ix_4, ix_5, ix_6, ix_7, ix_8, ix_9, ix_10, ix_11, ix_12, ix_13, ix_14, ix_15, ix_16, ix_17, ix_18, ix_19, ix_20, ix_21, ix_22, ix_23, ix_24, ix_25, mq_P, p16, ↓if_pos c4, if_pos c4, g]
    · have c4 : ¬ Int32.ofNat q.st = 4 := by
        show ¬ Int32.ofNat q.st = Int32.ofNat 4
        exact i32_ne (by omega) (by omega) (by omega)
      unfold so0
      rw [if_neg c]
      refine ⟨F, ?_, M, keepF.rf⟩
      rw [dM_of (Nat.le_of_ble_eq_true rfl)]
      simp -implicitDefEqProofs only [D_335_0, k_335_0, k_335_18, R_335, v_aload_n, g_getfield, sv_a, rf_s, g_getfieldS, g_bipush, v_iaload, inI_0, g_istore_n, v_iload_n, g_iconst, g_icmp_ne, v_callV2, aft_v, aft_n, v_callV1, g_sipush, v_callV3, sv_i, g_if_le, g_return, entL, getL, setL, kL_i, kL_r, isI_s, isR_s, isJ_s, gV_s, iV_i, cs0, cs1, cs2, cs3, cs4, dn_nil, kd_si, kd_sl, kd_sw, mr_si, mr_sl, mr_sw, ml_si, ml_sw, mi_sl, mk_277 H, mk_278 H, mk_279 H, mk_280 H, mk_281 H, mk_282 H, mk_283 H, mk_284 H, mk_285 H, mk_286 H, mk_287 H, mk_288 H, mk_289 H, mr_1 H, mr_11 H, mr_12 H, mr_13 H, mr_14 H, mr_15 H, mr_16 H, mr_17 H, mr_18 H, mr_19 H, mr_24 H, mr_25 H, mt_k, mt_r, mb_k, mb_r, ip_0, ip_1, ip_2, ip_3, ip_4, ip_5, ip_6, ip_7, ip_8, ip_9, ip_10, ip_11, ip_12, ip_13, ip_14, ip_15, ip_16, ip_17, ip_18, ip_19, ip_20, ip_21, ip_22, ip_23, ip_24, ip_25, ix_0, ix_1, ix_2, ix_3, ix_4, ix_5, ix_6, ix_7, ix_8, ix_9, ix_10, ix_11, ix_12, ix_13, ix_14, ix_15, ix_16, ix_17, ix_18, ix_19, ix_20, ix_21, ix_22, ix_23, ix_24, ix_25, mq_P, p16, ↓if_neg c4, if_neg c4]
  obtain ⟨F0, ed, M0, k0⟩ := e0
  obtain ⟨F1, w1, g1, M1, k1⟩ := s_294x (h := h.mb N P D) H (mb_to B) M0
  have M1 : MS F1 w1 n T (so1 T n q.st t) := M1
  obtain ⟨F2, w2, g2, M2, k2⟩ := s_357 (h := h.mb N (P) (D)) (lo := 1) (hi := 999) H (mb_to B) M1 (by decide) (by decide)
  have M2 : MS F2 w2 n T (sdE (so2 T n q.st t)) := M2
  have g2 : dM PG 357 [.ref 277, .int 1, .int 999] ((h.mb N (P) (D)).mt F1 w1) = some (.inl (some (.int (Int32.ofNat (vlE (1) (so2 T n q.st t))))), (h.mb N (P) (D)).mt F2 w2) := g2
  obtain ⟨v2, e2⟩ : ∃ v, v = Int32.ofNat (vlE (1) (so2 T n q.st t)) := ⟨_, rfl⟩
  rw [← e2] at g2
  have lv : vlE 1 (so2 T n q.st t) ≤ 999 := (vl_le (by decide)).2
  obtain ⟨F3, w3, g3, M3, k3⟩ := s_357 (h := h.mb N (P) (D)) (lo := vlE 1 (so2 T n q.st t)) (hi := 999) H (mb_to B) M2 (by omega) (by decide)
  have M3 : MS F3 w3 n T (sdE (so3 T n q.st t)) := M3
  have g3 : dM PG 357 [.ref 277, .int (Int32.ofNat (vlE 1 (so2 T n q.st t))), .int 999] ((h.mb N (P) (D)).mt F2 w2) = some (.inl (some (.int (Int32.ofNat (vlE (vlE 1 (so2 T n q.st t)) (so3 T n q.st t))))), (h.mb N (P) (D)).mt F3 w3) := g3
  obtain ⟨v3, e3⟩ : ∃ v, v = Int32.ofNat (vlE (vlE 1 (so2 T n q.st t)) (so3 T n q.st t)) := ⟨_, rfl⟩
  rw [← e3] at g3
  rw [← e2] at g3
  have kk : keepG F F3 := fun j hj _ => by rw [k3 j hj, k2 j hj, k1 j hj, k0 j hj]
  rw [pSt_x]
  generalize hx : sdE (so3 T n q.st t) = x5 at M3
  cases x5 with
  | inl e =>
    have n5 := ms_5 M3
    refine ⟨F3, w3, N, P, D, ?_, kk, M3, ⟨q.ns, i2, ?_⟩, ⟨q.ni, i3, ?_⟩⟩
    · rw [ed, D_335_18]
      simp -implicitDefEqProofs only [k_335_0, k_335_18, D_335_48, k_335_48, R_335, v_aload_n, g_getfield, sv_a, rf_s, g_getfieldS, g_bipush, v_iaload, inI_0, g_istore_n, v_iload_n, g_iconst, g_icmp_ne, v_callV2, aft_v, aft_n, v_callV1, g_sipush, v_callV3, sv_i, g_if_le, g_return, g_iadd, v_iastore, wrI_0, g_dup2, entL, getL, setL, kL_i, kL_r, isI_s, isR_s, isJ_s, gV_s, iV_i, cs0, cs1, cs2, cs3, cs4, dn_nil, kd_si, kd_sl, kd_sw, mr_si, mr_sl, mr_sw, ml_si, ml_sw, mi_sl, mk_277 H, mk_278 H, mk_279 H, mk_280 H, mk_281 H, mk_282 H, mk_283 H, mk_284 H, mk_285 H, mk_286 H, mk_287 H, mk_288 H, mk_289 H, mr_1 H, mr_11 H, mr_12 H, mr_13 H, mr_14 H, mr_15 H, mr_16 H, mr_17 H, mr_18 H, mr_19 H, mr_24 H, mr_25 H, mt_k, mt_r, mb_k, mb_r, mt_f, g1, g2, g3, ↓if_neg n5, if_neg n5]
    · rw [cP 7 (by decide), i5]
    · rw [cD 9 (by decide), i6]
  | inr t' =>
    have s4 := so_4 hx
    have f5 : F3 5 = 0 := M3.2.2.2.1
    have z : (0 : Int32) ≤ 0 := by decide
    have a17 : (17 : Int32) + Int32.ofNat q.st = Int32.ofNat (17 + q.st) := i32_add (a := 17)
    have a21 : (21 : Int32) + Int32.ofNat q.st = Int32.ofNat (21 + q.st) := i32_add (a := 21)
    have b_1 : inb (Int32.ofNat (17 + q.st)) 26 = true := inb_nat (by omega) (by decide)
    have n_1 : (Int32.ofNat (17 + q.st)).toNatClampNeg = 17 + q.st := i32_nat (by omega)
    have b_2 : inb (Int32.ofNat (21 + q.st)) 26 = true := inb_nat (by omega) (by decide)
    have n_2 : (Int32.ofNat (21 + q.st)).toNatClampNeg = 21 + q.st := i32_nat (by omega)
    have s1 : Int32.ofNat (q.st) + 1 = Int32.ofNat (q.st + 1) := i32_add (b := 1)
    have p16' : zu (zu P (17 + q.st) v2) (21 + q.st) v3 16 = Int32.ofNat q.st := by rw [zu_o (by omega), zu_o (by omega), p16]
    rw [pB_r, ← e2, ← e3]
    have z16 : zu (zu (zu q.pl (17 + q.st) v2) (21 + q.st) v3) 16 (Int32.ofNat (q.st + 1)) 16 = Int32.ofNat (q.st + 1) := zu_same
    refine ⟨F3, w3, N, zu (zu (zu P (17 + q.st) v2) (21 + q.st) v3) 16 (Int32.ofNat (q.st + 1)), D, ?_, kk, M3, ⟨s4, i2, i3, z16, ?_, i6⟩, fun k hk => ?_, cD, cN, ?_, cz⟩
    · rw [ed, D_335_18]
      simp -implicitDefEqProofs only [k_335_0, k_335_18, D_335_48, k_335_48, R_335, v_aload_n, g_getfield, sv_a, rf_s, g_getfieldS, g_bipush, v_iaload, inI_0, g_istore_n, v_iload_n, g_iconst, g_icmp_ne, v_callV2, aft_v, aft_n, v_callV1, g_sipush, v_callV3, sv_i, g_if_le, g_return, g_iadd, v_iastore, wrI_0, g_dup2, entL, getL, setL, kL_i, kL_r, isI_s, isR_s, isJ_s, gV_s, iV_i, cs0, cs1, cs2, cs3, cs4, dn_nil, kd_si, kd_sl, kd_sw, mr_si, mr_sl, mr_sw, ml_si, ml_sw, mi_sl, mk_277 H, mk_278 H, mk_279 H, mk_280 H, mk_281 H, mk_282 H, mk_283 H, mk_284 H, mk_285 H, mk_286 H, mk_287 H, mk_288 H, mk_289 H, mr_1 H, mr_11 H, mr_12 H, mr_13 H, mr_14 H, mr_15 H, mr_16 H, mr_17 H, mr_18 H, mr_19 H, mr_24 H, mr_25 H, mt_k, mt_r, mb_k, mb_r, mt_f, mq_P, qw_P, g1, g2, g3, f5, ↓if_pos z, if_pos z, a17, a21, b_1, n_1, b_2, n_2, ip_0, ip_1, ip_2, ip_3, ip_4, ip_5, ip_6, ip_7, ip_8, ip_9, ip_10, ip_11, ip_12, ip_13, ip_14, ip_15, ip_16, ip_17, ip_18, ip_19, ip_20, ip_21, ip_22, ip_23, ip_24, ip_25, ix_0, ix_1, ix_2, ix_3, ix_4, ix_5, ix_6, ix_7, ix_8, ix_9, ix_10, ix_11, ix_12, ix_13, ix_14, ix_15, ix_16, ix_17, ix_18, ix_19, ix_20, ix_21, ix_22, ix_23, ix_24, ix_25, p16', s1]
    · show zu (zu (zu q.pl (17 + q.st) v2) (21 + q.st) v3) 16 (Int32.ofNat (q.st + 1)) 7 = _
      rw [zu_o (by decide), zu_o (by omega), zu_o (by omega), i5]
      rfl
    · show zu (zu (zu P (17 + q.st) v2) (21 + q.st) v3) 16 (Int32.ofNat (q.st + 1)) k = zu (zu (zu q.pl (17 + q.st) v2) (21 + q.st) v3) 16 (Int32.ofNat (q.st + 1)) k
      unfold zu
      rw [cP k hk]
    · have e23 : F3 23 = F 23 := by rw [k3 23 (by omega), k2 23 (by omega), k1 23 (by omega), k0 23 (by omega)]
      exact e23.trans c23
end MPC
