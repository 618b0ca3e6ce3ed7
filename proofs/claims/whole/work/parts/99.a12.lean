-- ===== copyText =====
theorem sbx_nw {h : Mm} {s v cap len m : Nat} {k : Kd} {c : Nat → Nat} (H : SBx h s v cap len c) : SBx (h.nw k m) s v cap len c := by
  obtain ⟨k1, r0, k2, i1, i3, l1, l2, hvs, hvz, hsz, hc⟩ := H
  have ms : (h.nw k m).mi s = h.mi s := by rw [mi_nw, zu_o (by omega)]
  have mv : (h.nw k m).mi v = h.mi v := by rw [mi_nw, zu_o (by omega)]
  refine ⟨?_, ?_, ?_, ?_, ?_, l1, l2, hvs, ?_, ?_, fun j hj => ?_⟩
  · rw [kd_nw', zu_o (by omega), k1]
  · rw [mr_nw, zu_o (by omega), r0]
  · rw [kd_nw', zu_o (by omega), k2]
  · rw [ms, i1]
  · rw [ms, i3]
  · rw [sz_nw]; omega
  · rw [sz_nw]; omega
  · rw [mv]; exact hc j hj
theorem R_376 : PG.2.1 376 = (some (.object "java/lang/String")) := rfl
theorem m_376 {h : Mm} {s v n : Nat} {c : Nat → Nat} (H : SBx h s v 16 n c) (hn : n < 16) : dM PG 376 [.ref s] h = some (.inl (some (.ref h.sz)), strN (h.nw (some (.inl 9)) 4) h.sz v n) := by
  have hv : v < h.sz := H.2.2.2.2.2.2.2.2.1
  have k9 : (h.nw (some (.inl 9)) 4).kd h.sz = some (.inl 9) := by rw [kd_nw', zu_same]
  have g := m_377 (sbx_nw (k := some (.inl 9)) (m := 4) H) hn (x := h.sz) (by rw [sz_nw]; omega) k9 (by omega)
  rw [dM_of (Nat.le_of_ble_eq_true rfl)]
  simp -implicitDefEqProofs only [D_376_0, k_376_0, R_376, g_new, g_dup_i, g_dup_r, v_aload_n, v_callI2, aft_v, aft_n, g_areturn, entL, getL, setL, kL_i, kL_r, isI_s, isR_s, isJ_s, gV_s, iV_i, cs0, cs1, cs2, cs3, cs4, dn_nil, kd_si, kd_sl, kd_sw, mr_si, mr_sl, mr_sw, ml_si, ml_sw, mi_sl, H.1, g_new, k9, g]
theorem str_o {G : Mm} {v n a : Nat} (ha : a < G.sz) : (strN (G.nw (some (.inl 9)) 4) G.sz v n).kd a = G.kd a ∧ (strN (G.nw (some (.inl 9)) 4) G.sz v n).ml a = G.ml a ∧ (strN (G.nw (some (.inl 9)) 4) G.sz v n).mi a = G.mi a ∧ (strN (G.nw (some (.inl 9)) 4) G.sz v n).mr a = G.mr a := by
  refine ⟨?_, ?_, ?_, ?_⟩
  · show zu (zu G.kd G.sz _) (G.sz + 1) _ a = _
    rw [zu_o (by omega), zu_o (by omega)]
  · show zu (zu G.ml G.sz _) (G.sz + 1) _ a = _
    rw [zu_o (by omega), zu_o (by omega)]
  · show zu (zu (zu2 (zu G.mi G.sz _) G.sz 1 0) (G.sz + 1) _) (G.sz + 1) _ a = _
    rw [zu_o (by omega), zu_o (by omega), z2_o (by omega), zu_o (by omega)]
  · show zu2 (zu (zu G.mr G.sz _) (G.sz + 1) _) G.sz 0 _ a = _
    rw [z2_o (by omega), zu_o (by omega), zu_o (by omega)]
theorem str_s {G : Mm} {s v n : Nat} {c : Nat → Nat} (H : SBx G s v 16 n c) (hn : n < 16) : STR (strN (G.nw (some (.inl 9)) 4) G.sz v n) G.sz (G.sz + 1) n c := by
  obtain ⟨k1, r0, k2, i1, i3, l1, l2, hvs, hvz, hsz, hc⟩ := H
  refine ⟨?_, ?_, Or.inl ⟨?_, ?_⟩, by omega, fun k hk => ⟨(hc k hk).1, ?_⟩⟩
  · exact z2_s
  · show zu (zu (zu2 (zu G.mi G.sz (fun _ => 0)) G.sz 1 0) (G.sz + 1) (fun _ => 0)) (G.sz + 1) (upto n ((G.nw (some (.inl 9)) 4).mi v) (fun _ => 0)) G.sz 1 = 0
    rw [zu_o (by omega), zu_o (by omega), z2_s]
  · show zu (zu G.kd G.sz (some (.inl 9))) (G.sz + 1) (some (.inr (.byte, n))) G.sz = _
    rw [zu_o (by omega), zu_same]
  · show zu (zu G.kd G.sz (some (.inl 9))) (G.sz + 1) (some (.inr (.byte, n))) (G.sz + 1) = _
    rw [zu_same]
  · show zu (zu (zu2 (zu G.mi G.sz (fun _ => 0)) G.sz 1 0) (G.sz + 1) (fun _ => 0)) (G.sz + 1) (upto n ((G.nw (some (.inl 9)) 4).mi v) (fun _ => 0)) (G.sz + 1) k = _
    rw [zu_same, mi_nw, zu_o (by omega)]
    show (if k < n then G.mi v k else 0) = _
    rw [if_pos hk]
    exact (hc k hk).2
/-- four new cells, all else as it was -/
def NW4 (M H : Mm) (len : Nat) : Prop := H.sz = M.sz + 4 ∧ H.nc = M.nc + 4 ∧ H.ns = M.ns + (24 + len) ∧ ∀ a, a < M.sz → H.kd a = M.kd a ∧ H.ml a = M.ml a ∧ H.mi a = M.mi a ∧ H.mr a = M.mr a
def sbM (M : Mm) : Mm := sbN (M.nw (some (.inl 10)) 4) M.sz
theorem sbM_x {M : Mm} {c : Nat → Nat} : SBx (sbM M) M.sz (M.sz + 1) 16 0 c := by
  refine ⟨?_, ?_, ?_, ?_, ?_, Nat.zero_le _, by decide, by omega, ?_, ?_, fun k hk => absurd hk (Nat.not_lt_zero _)⟩
  · show zu (zu M.kd M.sz (some (.inl 10))) (M.sz + 1) _ M.sz = _
    rw [zu_o (by omega), zu_same]
  · exact z2_s
  · show zu (zu M.kd M.sz (some (.inl 10))) (M.sz + 1) _ (M.sz + 1) = _
    rw [zu_same]
  · exact mi_ss
  · show ((((M.nw (some (.inl 10)) 4).nw (some (.inr (.byte, 16))) 16).sr M.sz 0 (some (M.nw (some (.inl 10)) 4).sz)).si M.sz 1 0).mi M.sz 3 = 0
    rw [mi_sk (by decide)]
    show zu (zu M.mi M.sz _) (M.sz + 1) _ M.sz 3 = 0
    rw [zu_o (by omega), zu_same]
  · show M.sz + 1 < M.sz + 1 + 1
    omega
  · show M.sz < M.sz + 1 + 1
    omega
theorem sbM_o {M : Mm} {a : Nat} (ha : a < M.sz) : (sbM M).kd a = M.kd a ∧ (sbM M).ml a = M.ml a ∧ (sbM M).mi a = M.mi a ∧ (sbM M).mr a = M.mr a := by
  refine ⟨?_, ?_, ?_, ?_⟩
  · show zu (zu M.kd M.sz _) (M.sz + 1) _ a = _
    rw [zu_o (by omega), zu_o (by omega)]
  · show zu (zu M.ml M.sz _) (M.sz + 1) _ a = _
    rw [zu_o (by omega), zu_o (by omega)]
  · show ((((M.nw (some (.inl 10)) 4).nw (some (.inr (.byte, 16))) 16).sr M.sz 0 (some (M.nw (some (.inl 10)) 4).sz)).si M.sz 1 0).mi a = _
    rw [mi_sa (by omega)]
    show zu (zu M.mi M.sz _) (M.sz + 1) _ a = _
    rw [zu_o (by omega), zu_o (by omega)]
  · show zu2 (zu (zu M.mr M.sz _) (M.sz + 1) _) M.sz 0 _ a = _
    rw [z2_o (by omega), zu_o (by omega), zu_o (by omega)]
/-- the builder while the letters are copied -/
def SBK (M : Mm) (k : Nat) (ch : Nat → Nat) (G : Mm) : Prop := SBx G M.sz (M.sz + 1) 16 k ch ∧ G.1 = (sbM M).1 ∧ G.kd = (sbM M).kd ∧ G.mr = (sbM M).mr ∧ G.ml = (sbM M).ml ∧ ∀ a, a ≠ M.sz → a ≠ M.sz + 1 → G.mi a = (sbM M).mi a
theorem R_371 : PG.2.1 371 = (some (.object "java/lang/String")) := rfl
theorem l_371 {M : Mm} {tk n : Nat} {T : Nat → Nat} {t : Tok} (H : TKO M tk n T) (hF : TK (M.mi tk) n t) (hi : tIn n t) (hz : 202 ≤ M.sz) (htz : tk < M.sz) (hl : ∀ j, t.1 ≤ j → j < t.2.1 → T j < 128) (h9 : t.2.1 ≤ t.1 + 9) : ∀ (e k : Nat) (G : Mm), t.1 + k + e = t.2.1 → SBK M k (fun j => T (t.1 + j)) G → ∃ G', dB PG 371 13 (some (.ref tk) :: some (.ref M.sz) :: some (.int (Int32.ofNat (t.1 + k))) :: []) [] G = dB PG 371 47 (some (.ref tk) :: some (.ref M.sz) :: some (.int (Int32.ofNat t.2.1)) :: []) [] G' ∧ SBK M (t.2.1 - t.1) (fun j => T (t.1 + j)) G' := by
  obtain ⟨t1, t2, t3, t4, t5, t6⟩ := H
  obtain ⟨f1, f2, f3, -⟩ := hF
  have ltn : t.2.1 ≤ n := hi.2
  intro e
  induction e with
  | zero =>
    intro k G hk S
    have ek : t.1 + k = t.2.1 := by omega
    have ek2 : k = t.2.1 - t.1 := by omega
    obtain ⟨sx, s1, s2, s3, s4, s5⟩ := S
    have kt : G.kd tk = some (.inl 6) := by rw [s2, (sbM_o htz).1, t1]
    have mt : G.mi tk = M.mi tk := by rw [s5 tk (by omega) (by omega), (sbM_o htz).2.2.1]
    have c1 : Int32.ofNat (t.2.1) ≤ Int32.ofNat (t.2.1) := by rw [i32_le (by omega) (by omega)]; omega
    refine ⟨G, ?_, by rw [← ek2]; exact ⟨sx, s1, s2, s3, s4, s5⟩⟩
    rw [ek, D_371_13]
    simp -implicitDefEqProofs only [D_371_0, k_371_0, k_371_13, k_371_47, R_371, g_new, g_dup_i, g_dup_r, v_callI1, aft_v, aft_n, g_astore_n, g_astore_nN, v_aload_n, g_getfield, sv_i, rf_s, g_getfieldS, g_istore_n, v_iload_n, g_icmp_ge, sv_a, v_baload, inB_0, inB_1, g_i2c, v_callV2, g_pop_i, g_pop_r, v_iinc, g_goto, v_callV1, g_areturn, entL, getL, setL, kL_i, kL_r, isI_s, isR_s, isJ_s, gV_s, iV_i, cs0, cs1, cs2, cs3, cs4, dn_nil, kd_si, kd_sl, kd_sw, mr_si, mr_sl, mr_sw, ml_si, ml_sw, mi_sl, kt, mt, f3, ↓if_pos c1, if_pos c1]
  | succ e ih =>
    intro k G hk S
    obtain ⟨sx, s1, s2, s3, s4, s5⟩ := S
    have kt : G.kd tk = some (.inl 6) := by rw [s2, (sbM_o htz).1, t1]
    have kb : G.kd 201 = some (.inr (.byte, 1500)) := by rw [s2, (sbM_o (by omega)).1, t3]
    have mt : G.mi tk = M.mi tk := by rw [s5 tk (by omega) (by omega), (sbM_o htz).2.2.1]
    have rt : G.mr tk 0 = some 201 := by rw [s3, (sbM_o htz).2.2.2, t2]
    have mb : G.mi 201 = M.mi 201 := by rw [s5 201 (by omega) (by omega), (sbM_o (by omega)).2.2.1]
    obtain ⟨y1, y2⟩ := t6 (t.1 + k) (by omega)
    have y3 := hl (t.1 + k) (by omega) (by omega)
    have y4 : sb8 (T (t.1 + k)) = Int32.ofNat (T (t.1 + k)) := (sb_eq y1 y3).mpr rfl
    have y5 := (ch_ok y3).2.1
    have c1 : ¬ Int32.ofNat (t.2.1) ≤ Int32.ofNat (t.1 + k) := by rw [i32_le (by omega) (by omega)]; omega
    have c2 : ¬ Int32.ofNat (n) ≤ Int32.ofNat (t.1 + k) := by rw [i32_le (by omega) (by omega)]; omega
    have b_1 : inb (Int32.ofNat (t.1 + k)) 1500 = true := inb_nat (by omega) (by decide)
    have n_1 : (Int32.ofNat (t.1 + k)).toNatClampNeg = t.1 + k := i32_nat (by omega)
    have s6 : Int32.ofNat (t.1 + k) + 1 = Int32.ofNat (t.1 + (k + 1)) := i32_add (b := 1)
    have g := m_241s sx (x := T (t.1 + k)) (by omega) y3
    have sx2 := sbx_c sx (x := T (t.1 + k)) (by omega) y3
    have ks := sx.1
    have ec : zu (fun j => T (t.1 + j)) k (T (t.1 + k)) = fun j => T (t.1 + j) := zu_id rfl
    rw [ec] at sx2
    have S2 : SBK M (k + 1) (fun j => T (t.1 + j)) ((G.si M.sz 3 (Int32.ofNat (k + 1))).si (M.sz + 1) k (Int32.ofNat (T (t.1 + k)))) := ⟨sx2, s1, s2, s3, s4, fun a h1 h2 => by
      rw [mi_sa h2, mi_sa h1]
      exact s5 a h1 h2⟩
    obtain ⟨G', q1, q2⟩ := ih (k + 1) _ (by omega) S2
    refine ⟨G', ?_, q2⟩
    rw [← q1]
    rw [D_371_13]
    simp -implicitDefEqProofs only [D_371_0, k_371_0, k_371_13, k_371_47, R_371, g_new, g_dup_i, g_dup_r, v_callI1, aft_v, aft_n, g_astore_n, g_astore_nN, v_aload_n, g_getfield, sv_i, rf_s, g_getfieldS, g_istore_n, v_iload_n, g_icmp_ge, sv_a, v_baload, inB_0, inB_1, g_i2c, v_callV2, g_pop_i, g_pop_r, v_iinc, g_goto, v_callV1, g_areturn, entL, getL, setL, kL_i, kL_r, isI_s, isR_s, isJ_s, gV_s, iV_i, cs0, cs1, cs2, cs3, cs4, dn_nil, kd_si, kd_sl, kd_sw, mr_si, mr_sl, mr_sw, ml_si, ml_sw, mi_sl, kt, kb, rt, mt, mb, f1, f3, ↓if_neg c1, if_neg c1, ↓if_neg c2, if_neg c2, b_1, n_1, y2, y4, y5, ks, g, s6]
theorem m_371 {M : Mm} {tk n : Nat} {T : Nat → Nat} {t : Tok} (H : TKO M tk n T) (hF : TK (M.mi tk) n t) (hi : tIn n t) (hz : 202 ≤ M.sz) (htz : tk < M.sz) (hl : ∀ j, t.1 ≤ j → j < t.2.1 → T j < 128) (h9 : t.2.1 ≤ t.1 + 9) : ∃ G, dM PG 371 [.ref tk] M = some (.inl (some (.ref (M.sz + 2))), G) ∧ NW4 M G (t.2.1 - t.1) ∧ STR G (M.sz + 2) (M.sz + 3) (t.2.1 - t.1) (fun j => T (t.1 + j)) := by
  have k10 : (M.nw (some (.inl 10)) 4).kd M.sz = some (.inl 10) := by rw [kd_nw', zu_same]
  have g1 : dM PG 134 [.ref M.sz] (M.nw (some (.inl 10)) 4) = some (.inl none, sbM M) := m_134 (by rw [sz_nw]; omega) k10
  have t1 := H.1
  have kt : (sbM M).kd tk = some (.inl 6) := by rw [(sbM_o htz).1, t1]
  have mt : (sbM M).mi tk = M.mi tk := (sbM_o htz).2.2.1
  have f2 := hF.2.1
  have le := hi.1
  obtain ⟨G, q1, q2, s1, s2, s3, s4, s5⟩ := l_371 H hF hi hz htz hl h9 (t.2.1 - t.1) 0 (sbM M) (by omega) ⟨sbM_x, rfl, rfl, rfl, rfl, fun _ _ _ => rfl⟩
  have g2 := m_376 q2 (by omega)
  have ez : G.sz = M.sz + 2 := by
    show G.1.1 = _
    rw [s1]
    rfl
  have en : G.ns = M.ns + 4 + 16 := by
    show G.1.2.2 = _
    rw [s1]
    rfl
  have ec : G.nc = M.nc + 1 + 1 := by
    show G.1.2.1 = _
    rw [s1]
    rfl
  have kx := q2.1
  have st := str_s q2 (by omega)
  rw [ez] at st g2
  refine ⟨strN (G.nw (some (.inl 9)) 4) G.sz (M.sz + 1) (t.2.1 - t.1), ?_, ⟨?_, ?_, ?_, fun a ha => ?_⟩, ?_⟩
  · rw [ez]
    rw [dM_of (Nat.le_of_ble_eq_true rfl)]
    simp -implicitDefEqProofs only [D_371_0, k_371_0, k_371_13, k_371_47, R_371, g_new, g_dup_i, g_dup_r, v_callI1, aft_v, aft_n, g_astore_n, g_astore_nN, v_aload_n, g_getfield, sv_i, rf_s, g_getfieldS, g_istore_n, v_iload_n, g_icmp_ge, sv_a, v_baload, inB_0, inB_1, g_i2c, v_callV2, g_pop_i, g_pop_r, v_iinc, g_goto, v_callV1, g_areturn, entL, getL, setL, kL_i, kL_r, isI_s, isR_s, isJ_s, gV_s, iV_i, cs0, cs1, cs2, cs3, cs4, dn_nil, kd_si, kd_sl, kd_sw, mr_si, mr_sl, mr_sw, ml_si, ml_sw, mi_sl, g_new, k10, g1, kt, mt, f2]
    have q1' : dB PG 371 13 (some (.ref tk) :: some (.ref M.sz) :: some (.int (Int32.ofNat t.1)) :: []) [] (sbM M) = dB PG 371 47 (some (.ref tk) :: some (.ref M.sz) :: some (.int (Int32.ofNat t.2.1)) :: []) [] G := q1
    rw [q1', D_371_47]
    simp -implicitDefEqProofs only [D_371_0, k_371_0, k_371_13, k_371_47, R_371, g_new, g_dup_i, g_dup_r, v_callI1, aft_v, aft_n, g_astore_n, g_astore_nN, v_aload_n, g_getfield, sv_i, rf_s, g_getfieldS, g_istore_n, v_iload_n, g_icmp_ge, sv_a, v_baload, inB_0, inB_1, g_i2c, v_callV2, g_pop_i, g_pop_r, v_iinc, g_goto, v_callV1, g_areturn, entL, getL, setL, kL_i, kL_r, isI_s, isR_s, isJ_s, gV_s, iV_i, cs0, cs1, cs2, cs3, cs4, dn_nil, kd_si, kd_sl, kd_sw, mr_si, mr_sl, mr_sw, ml_si, ml_sw, mi_sl, kx, g2]
  · show G.sz + 1 + 1 = _
    rw [ez]
  · show G.nc + 1 + 1 = _
    rw [ec]
  · show G.ns + 4 + (t.2.1 - t.1) = _
    rw [en]
    omega
  · obtain ⟨x1, x2, x3, x4⟩ := str_o (G := G) (v := M.sz + 1) (n := t.2.1 - t.1) (a := a) (by omega)
    obtain ⟨y1, y2, y3, y4⟩ := sbM_o ha
    refine ⟨?_, ?_, ?_, ?_⟩
    · rw [x1, s2, y1]
    · rw [x2, s4, y2]
    · rw [x3, s5 a (by omega) (by omega), y3]
    · rw [x4, s3, y4]
  · rw [ez]
    exact st
