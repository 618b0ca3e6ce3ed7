-- ===== the grader: texts =====
abbrev Tt : Type := Nat × (Nat → Nat)
def tC (x : Nat) (t : Tt) : Tt := (t.1 + 1, zu t.2 t.1 x)
def tS (n : Nat) (d : Nat → Nat) (t : Tt) : Tt := (t.1 + n, apL t.1 n t.2 d)
def tN (v n : Nat) (t : Tt) : Tt := (t.1 + n, nuL t.1 n v t.2)
def Tx (h0 h : Mm) (v0 cap0 : Nat) (t : Tt) : Prop := ∃ v cap, SBx h 274 v cap t.1 t.2 ∧ (v = v0 ∨ h0.sz ≤ v) ∧ FrB h0 h 274 v0 cap0 cap
theorem tx_kd {h0 h : Mm} {v0 cap0 a : Nat} {t : Tt} (T : Tx h0 h v0 cap0 t) (ha : a < h0.sz) : h.kd a = h0.kd a := by
  obtain ⟨v, cap, -, -, F⟩ := T
  exact (F.2.1 a ha).1
theorem tx_mr {h0 h : Mm} {v0 cap0 a : Nat} {t : Tt} (T : Tx h0 h v0 cap0 t) (ha : a < h0.sz) (hs : a ≠ 274) : h.mr a = h0.mr a := by
  obtain ⟨v, cap, -, -, F⟩ := T
  exact F.2.2.1 a ha hs
theorem tx_mi {h0 h : Mm} {v0 cap0 a : Nat} {t : Tt} (T : Tx h0 h v0 cap0 t) (ha : a < h0.sz) (hs : a ≠ 274) (hv : a ≠ v0) : h.mi a = h0.mi a := by
  obtain ⟨v, cap, -, -, F⟩ := T
  exact F.2.2.2.1 a ha hs hv
theorem tx_go {h0 h : Mm} {v0 cap0 u d b c : Nat} {t : Tt} (T : Tx h0 h v0 cap0 t) (hz : 277 ≤ h0.sz) (G : GO h0 u d b c) : GO h u d b c := by
  unfold GO at G ⊢
  rw [tx_kd T (show 200 < h0.sz by omega), tx_mr T (show 200 < h0.sz by omega) (by decide), tx_kd T (show 201 < h0.sz by omega), tx_kd T (show 273 < h0.sz by omega), tx_kd T (show 274 < h0.sz by omega), tx_kd T (show 276 < h0.sz by omega)]
  exact G
theorem tx_st {h0 h : Mm} {v0 cap0 b : Nat} {t : Tt} (T : Tx h0 h v0 cap0 t) (hz : b + 19 ≤ h0.sz) (hb : b + 19 ≤ 274 ∨ 274 < b) (S : ST h0 b) : ST h b := ST_of (h := h0) (fun o ho => tx_kd T (by omega)) (fun o ho => tx_mr T (by omega) (by omega)) S
theorem tx_su {h0 h : Mm} {v0 cap0 u : Nat} {t : Tt} (T : Tx h0 h v0 cap0 t) (hz : u + 7 ≤ h0.sz) (hu : u ≠ 274) (S : SU h0 u) : SU h u := SU_of (h := h0) (fun o ho => tx_kd T (by omega)) (tx_mr T (by omega) hu) S
theorem tx_dig {h0 h : Mm} {v0 cap0 : Nat} {t : Tt} (T : Tx h0 h v0 cap0 t) (hz : 200 ≤ h0.sz) (hv : 200 ≤ v0) (D : DIG h0) : DIG h := by
  obtain ⟨d1, d2, d3⟩ := D
  refine ⟨?_, ?_, fun r hr => ?_⟩
  · rw [tx_kd T (by omega), d1]
  · rw [tx_kd T (by omega), d2]
  · rw [tx_mi T (by omega) (by omega) (by omega), tx_mi T (by omega) (by omega) (by omega)]
    exact d3 r hr
theorem tx_str {h0 h : Mm} {v0 cap0 p q n : Nat} {d : Nat → Nat} {t : Tt} (T : Tx h0 h v0 cap0 t) (G : STR h0 p q n d) (hp : p < h0.sz) (hq : q < h0.sz) (hps : p ≠ 274) (hpv : p ≠ v0) (hqs : q ≠ 274) (hqv : q ≠ v0) : STR h p q n d := by
  obtain ⟨v, cap, -, -, F⟩ := T
  exact STR_fr G F hp hq hps hpv hqs hqv
theorem sb_same {h : Mm} {b : Nat} {R : Nat → Nat → Int32} (hR : ∀ o, o < 19 → h.mi (b + o) = R o) : h.sb b R = h := by
  show (h.1, h.2.1, (fun a => if b ≤ a ∧ a < b + 19 then R (a - b) else h.mi a), h.ml, h.mr) = h
  have e : (fun a => if b ≤ a ∧ a < b + 19 then R (a - b) else h.mi a) = h.mi := by
    funext a
    split
    · rename_i c
      rw [← hR (a - b) (by omega), Nat.add_sub_cancel' c.1]
    · rfl
  rw [e]; rfl
theorem tx_sb {h0 h : Mm} {v0 cap0 b : Nat} {t : Tt} (T : Tx h0 h v0 cap0 t) (hz : b + 19 ≤ h0.sz) (hb : b + 19 ≤ 274 ∨ 274 < b) (hv : v0 < b ∨ b + 19 ≤ v0) : h.sb b (rowsAt h0 b) = h := sb_same (fun o ho => tx_mi T (by omega) (by omega) (by omega))
theorem tx_c {h0 h : Mm} {v0 cap0 x : Nat} {t : Tt} (T : Tx h0 h v0 cap0 t) (hm : t.1 + 1 ≤ 300) (hx : x < 128) : ∃ h', dM PG 241 [.ref 274, .int (Int32.ofNat x)] h = some (.inl (some (.ref 274)), h') ∧ Tx h0 h' v0 cap0 (tC x t) := by
  obtain ⟨v, cap, H, hv, F⟩ := T
  obtain ⟨h1, v1, cap1, g, H1, hv1, F1⟩ := m_241 H hm hx
  have := F.1
  exact ⟨h1, g, v1, cap1, H1, by omega, F.tr hv F1⟩
theorem tx_s {h0 h : Mm} {v0 cap0 p q n : Nat} {d : Nat → Nat} {t : Tt} (T : Tx h0 h v0 cap0 t) (hm : t.1 + n ≤ 300) (G : STR h0 p q n d) (hp : p < h0.sz) (hq : q < h0.sz) (hps : p ≠ 274) (hpv : p ≠ v0) (hqs : q ≠ 274) (hqv : q ≠ v0) : ∃ h', dM PG 239 [.ref 274, .ref p] h = some (.inl (some (.ref 274)), h') ∧ Tx h0 h' v0 cap0 (tS n d t) := by
  have G1 := tx_str T G hp hq hps hpv hqs hqv
  obtain ⟨v, cap, H, hv, F⟩ := T
  have := F.1
  obtain ⟨h1, v1, cap1, g, H1, hv1, F1⟩ := m_239 H hm G1 (by omega) (by omega) hps (by omega) hqs (by omega)
  exact ⟨h1, g, v1, cap1, H1, by omega, F.tr hv F1⟩
theorem tx_n {h0 h : Mm} {v0 cap0 x n : Nat} {t : Tt} (T : Tx h0 h v0 cap0 t) (hz : 277 ≤ h0.sz) (hv0 : 200 ≤ v0) (D : DIG h0) (hn : dgK x n) (hx : x < 1000000000) (hm : t.1 + n ≤ 300) : ∃ h', dM PG 240 [.ref 274, .int (Int32.ofNat x)] h = some (.inl (some (.ref 274)), h') ∧ Tx h0 h' v0 cap0 (tN x n t) := by
  have D1 := tx_dig T (by omega) hv0 D
  obtain ⟨v, cap, H, hv, F⟩ := T
  have := F.1
  obtain ⟨h1, v1, cap1, g, H1, hv1, F1⟩ := m_240 H D1 (by decide) (by omega) (by omega) hn hx hm
  exact ⟨h1, g, v1, cap1, H1, by omega, F.tr hv F1⟩
theorem tx_len {h0 h : Mm} {v0 cap0 : Nat} {t : Tt} (T : Tx h0 h v0 cap0 t) : dM PG 234 [.ref 274] h = some (.inl (some (.int (Int32.ofNat t.1))), h) := by
  obtain ⟨v, cap, H, hv, F⟩ := T
  exact m_234 H
theorem tx_0 {h : Mm} {v cap len : Nat} {c : Nat → Nat} (H : SBx h 274 v cap len c) : ∃ h', dM PG 237 [.ref 274, .int 0] h = some (.inl none, h') ∧ Tx h h' v cap (0, c) := by
  obtain ⟨h1, g, H1, F⟩ := m_237 H
  exact ⟨h1, g, v, cap, H1, Or.inl rfl, F⟩
theorem dgK_le {v n m : Nat} (h : dgK v n) (hv : v < 10 ^ m) (hm : 1 ≤ m) : n ≤ m := by
  obtain ⟨h1, h2, h3⟩ := h
  rcases h3 with h3 | h3
  · omega
  · by_cases c : n ≤ m
    · exact c
    · exfalso
      have : 10 ^ m ≤ 10 ^ (n - 1) := Nat.pow_le_pow_right (by decide) (by omega)
      omega
theorem R_135 : PG.2.1 135 = (some .int) := rfl
theorem m_135x {u d b c : Nat} {i : Int32} {h : Mm} {v cap len : Nat} {cs : Nat → Nat} (G : GO h u d b c) (H : SBx h 274 v cap len cs) (hi : i < 0 ∨ ¬ i < Int32.ofNat len) : dM PG 135 [.ref 200, .int i] h = some (.inr (exN 1), h.thr) := by
  rw [dM_of (Nat.le_of_ble_eq_true rfl)]
  have g := m_234 H
  by_cases a : i < 0
  · simp -implicitDefEqProofs only [D_135_0, k_135_0, D_135_15, k_135_15, D_135_26, k_135_26, R_135, v_iload_n, g_if_lt, v_aload_n, g_getfield, sv_o, rf_s, g_getfieldS, v_callV1, aft_v, aft_n, g_icmp_lt, g_throw, v_callV2, g_ireturn, entL, getL, setL, kL_i, kL_r, isI_s, isR_s, isJ_s, gV_s, iV_i, cs0, cs1, cs2, cs3, cs4, dn_nil, kd_si, kd_sl, kd_sw, mr_si, mr_sl, mr_sw, ml_si, ml_sw, mi_sl, go_k G, go_r0 G, go_r5 G, go_r6 G, go_r7 G, go_r8 G, go_r10 G, go_r12 G, go_r13 G, go_r14 G, go_k201 G, go_k273 G, go_k274 G, go_k276 G, ↓if_pos a, if_pos a]
  · have e := hi.resolve_left a
    simp -implicitDefEqProofs only [D_135_0, k_135_0, D_135_15, k_135_15, D_135_26, k_135_26, R_135, v_iload_n, g_if_lt, v_aload_n, g_getfield, sv_o, rf_s, g_getfieldS, v_callV1, aft_v, aft_n, g_icmp_lt, g_throw, v_callV2, g_ireturn, entL, getL, setL, kL_i, kL_r, isI_s, isR_s, isJ_s, gV_s, iV_i, cs0, cs1, cs2, cs3, cs4, dn_nil, kd_si, kd_sl, kd_sw, mr_si, mr_sl, mr_sw, ml_si, ml_sw, mi_sl, go_k G, go_r0 G, go_r5 G, go_r6 G, go_r7 G, go_r8 G, go_r10 G, go_r12 G, go_r13 G, go_r14 G, go_k201 G, go_k273 G, go_k274 G, go_k276 G, ↓if_neg a, if_neg a, g, ↓if_neg e, if_neg e]
theorem m_135y {u d b c k : Nat} {h : Mm} {v cap len : Nat} {cs : Nat → Nat} (G : GO h u d b c) (H : SBx h 274 v cap len cs) (hk : k < len) : dM PG 135 [.ref 200, .int (Int32.ofNat k)] h = some (.inl (some (.int (Int32.ofNat (cs k)))), h) := by
  rw [dM_of (Nat.le_of_ble_eq_true rfl)]
  have g := m_234 H
  have g2 := m_235 H hk
  have hl : len ≤ 600 := by have := H.2.2.2.2.2.1; have := H.2.2.2.2.2.2.1; omega
  have a : ¬ Int32.ofNat k < 0 := i32_0n (by omega)
  have e : Int32.ofNat (k) < Int32.ofNat (len) := by rw [i32_lt (by omega) (by omega)]; omega
  simp -implicitDefEqProofs only [D_135_0, k_135_0, D_135_15, k_135_15, D_135_26, k_135_26, R_135, v_iload_n, g_if_lt, v_aload_n, g_getfield, sv_o, rf_s, g_getfieldS, v_callV1, aft_v, aft_n, g_icmp_lt, g_throw, v_callV2, g_ireturn, entL, getL, setL, kL_i, kL_r, isI_s, isR_s, isJ_s, gV_s, iV_i, cs0, cs1, cs2, cs3, cs4, dn_nil, kd_si, kd_sl, kd_sw, mr_si, mr_sl, mr_sw, ml_si, ml_sw, mi_sl, go_k G, go_r0 G, go_r5 G, go_r6 G, go_r7 G, go_r8 G, go_r10 G, go_r12 G, go_r13 G, go_r14 G, go_k201 G, go_k273 G, go_k274 G, go_k276 G, ↓if_neg a, if_neg a, g, ↓if_pos e, if_pos e, g2, retX_int]
-- the words of the texts
def wC (w : String) (k : Nat) : Nat := (w.toList.getD k 'a').toNat
/-- the strings that texts need -/
def WST (h : Mm) : Prop := STR h 2 3 4 (wC "wait") ∧ STR h 4 5 3 (wC "ice") ∧ STR h 6 7 4 (wC "all ")
