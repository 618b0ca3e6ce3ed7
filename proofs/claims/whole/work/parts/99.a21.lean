-- ===== load of the class: the whole =====
section LD
variable {h : Mm} {u d b c n : Nat} {T : Nat → Nat}
theorem ld_ext : EXT d 1 (h.si 200 1 0) (ldM h d c n) := by
  refine ⟨?_, ?_, ?_, ?_, fun a ha => ⟨ld_k ha, ld_l ha, ld_i ha⟩, fun a f ha _ => ?_⟩
  · rw [ld_sz]; show h.sz ≤ h.sz + 2; omega
  · rw [ld_sz]; show h.sz + 2 ≤ h.sz + 8 * 1; omega
  · rw [ld_ns]; show h.ns + 9 + 6 ≤ h.ns + 64 * 1; omega
  · rw [ld_nc]; show h.nc + 1 + 1 ≤ h.nc + 8 * 1; omega
  · have ha : a < h.sz := ha
    rw [ld_r ha]; rfl
theorem wrd_si {k : Nat} {v : Int32} (W : WRD h) : WRD (h.si 200 k v) := by
  obtain ⟨w1, w2, w3⟩ := W
  refine ⟨fun i hi => ?_, w2, w3⟩
  obtain ⟨x1, x2, x3⟩ := w1 i hi
  exact ⟨x1, x2, STR_si x3 (by omega) (by omega)⟩
theorem txt_si {k : Nat} {v : Int32} (X : TXT h n T) : TXT (h.si 200 k v) n T := ⟨X.1, fun j hj => by rw [mi_sa (by decide)]; exact X.2 j hj⟩
theorem s_292l (kb : h.kd 201 = some (.inr (.byte, 1500))) (U : SU h d) (S : ST h c) (X : TXT h n T) (W : WRD h) (hz : 291 ≤ h.sz) (hd : 201 < d) (dc : d + 7 ≤ c) (cz : c + 19 ≤ h.sz) (hc : c + 19 ≤ 273 ∨ 291 ≤ c) : okP5 (ldM h d c n) (h.sz + 1) h.sz d c 0 (pTx T n) (dM PG 292 [.ref h.sz] (ldM h d c n)) := by
  have O : PO (ldM h d c n) (h.sz + 1) h.sz d c := ld_po kb U S hz hd dc cz hc
  have E : EXT d 1 (h.si 200 1 0) (ldM h d c n) := ld_ext
  have X' : TXT (ldM h d c n) n T := ext_txt E (txt_si X) (show 202 ≤ h.sz by omega)
  have W' : WRD (ldM h d c n) := ext_wrd E (wrd_si W) (show 200 ≤ h.sz by omega) (by omega)
  have Z : PZ (ldM h d c n) (h.sz + 1) h.sz d c := by
    refine ⟨?_, ?_, ?_, ?_⟩
    · rw [ld_sz]; omega
    · rw [ld_sz]; omega
    · rw [ld_sz]; omega
    · rw [ld_sz]; omega
  have g := s_292 (F := (ldM h d c n).mi (h.sz + 1)) (P := (ldM h d c n).mi h.sz) (D := fun o => (ldM h d c n).mi (d + o)) (R := fun o => (ldM h d c n).mi (c + o)) O X' W' Z ld_t.1 ld_t.2 ld_p
  rw [cp_self] at g
  exact g
def okP6 (h : Mm) (u d b c n : Nat) (x : PE Ps) (o : Option Rs) : Prop := match x with
  | .inl e => ∃ h' F P D R, o = some (.inr (exN 2), (((h'.cp (h.sz + 1) h.sz d c F P D R).si 200 2 (Int32.ofNat e.1)).si 200 3 (Int32.ofNat e.2)).thr) ∧ EXT d 6 (h.si 200 1 0) h'
  | .inr q => ∃ h' F P D R, o = some (.inl (some (.int (Int32.ofNat q.ni))), tdN (((h'.cp (h.sz + 1) h.sz d c F P D R).si 200 2 0).si 200 3 (-1)) u d b c) ∧ EXT d 6 (h.si 200 1 0) h' ∧ KQ (h.sz + 1) h.sz d c q h' P D R
theorem s_226 (G : GO h u d b c) (U : SU h d) (S : ST h c) (X : TXT h n T) (W : WRD h) (hz : 291 ≤ h.sz) (hd : 201 < d) (dc : d + 7 ≤ c) (cz : c + 19 ≤ h.sz) (hc : c + 19 ≤ 273 ∨ 291 ≤ c) (hb : Int32.ofNat n ≤ h.mi 200 1) : okP6 h u d b c n (pTx T n) (dM PG 226 [.ref 200, .int (Int32.ofNat n)] h) := by
  have G0 := G
  obtain ⟨k0, r0, r5, r6, r7, r8, r10, r12, r13, r14, kb, k3, k4, k5⟩ := G
  have hn := X.1
  have g5 := s_292l kb U S X W hz hd dc cz hc
  have E1 : EXT d 1 (h.si 200 1 0) (ldM h d c n) := ld_ext
  have nn : ¬ Int32.ofNat n < 0 := by
    show ¬ Int32.ofNat n < Int32.ofNat 0
    rw [i32_lt (by omega) (by omega)]; omega
  obtain ⟨h2, e2⟩ : ∃ h2, h2 = ((h.si 200 1 0).nw (some (.inl 3)) 9).nw (some (.inl 6)) 6 := ⟨_, rfl⟩
  have q0 : h2.kd 200 = some (.inl 7) := by
    rw [e2, kd_nw', zu_o (by rw [sz_nw, sz_si]; omega), kd_nw', zu_o (by rw [sz_si]; omega)]; exact k0
  have q1 : h2.mr 200 = h.mr 200 := by
    rw [e2, mr_nw, zu_o (by rw [sz_nw, sz_si]; omega), mr_nw, zu_o (by rw [sz_si]; omega)]; rfl
  have q2 : h2.kd (h.sz + 1) = some (.inl 6) := by
    rw [e2, kd_nw', sz_nw, sz_si, zu_same]
  have q3 : h2.kd h.sz = some (.inl 3) := by
    rw [e2, kd_nw', zu_o (by rw [sz_nw, sz_si]; omega), kd_nw', sz_si, zu_same]
  have q4 : h2.kd 201 = some (.inr (.byte, 1500)) := by
    rw [e2, kd_nw', zu_o (by rw [sz_nw, sz_si]; omega), kd_nw', zu_o (by rw [sz_si]; omega)]; exact kb
  have g1 := m_290 hn q2 q4
  obtain ⟨h3, e3⟩ : ∃ h3, h3 = tkN h2 (h.sz + 1) n := ⟨_, rfl⟩
  rw [← e3] at g1
  have p0 : h3.kd 200 = some (.inl 7) := by rw [e3]; exact q0
  have p1 : h3.kd h.sz = some (.inl 3) := by rw [e3]; exact q3
  have p6 : h3.mr 200 6 = some d := by
    rw [e3]
    show zu2 h2.mr (h.sz + 1) 0 (some 201) 200 6 = some d
    rw [z2_o (by omega), q1, r6]
  have p8 : h3.mr 200 8 = some c := by
    rw [e3]
    show zu2 h2.mr (h.sz + 1) 0 (some 201) 200 8 = some c
    rw [z2_o (by omega), q1, r8]
  have q1' : h2.mr 200 0 = some 201 := by rw [q1, r0]
  have g2 := m_291 (t := h.sz + 1) (d := d) (c := c) p1
  have e4 : prN h3 h.sz (h.sz + 1) d c = ldM h d c n := by
    rw [e3, e2]; rfl
  rw [e4] at g2
  have kk : (h.si 200 1 0).kd 200 = some (.inl 7) := k0
  have k1n : ((h.si 200 1 0).nw (some (.inl 3)) 9).sz = h.sz + 1 := by rw [sz_nw, sz_si]
  have O : PO (ldM h d c n) (h.sz + 1) h.sz d c := ld_po kb U S hz hd dc cz hc
  have J := O.1
  unfold okP6
  cases e : pTx T n with
  | inl y =>
    rw [e] at g5
    obtain ⟨h', F', P', D', R', g6, E, z4, z5⟩ := g5
    have E2 := EXT.tr E1 E
    have k7 : h'.kd 200 = some (.inl 7) := ((E2.2.2.2.2.1 200 (show 200 < h.sz by omega)).1).trans k0
    have k8 : h'.kd h.sz = some (.inl 3) := by
      rw [(E.2.2.2.2.1 h.sz (by rw [ld_sz]; omega)).1]
      exact O.2.2.2.2.1
    have cpp := cp_p (h := h') (F := F') (P := P') (D := D') (R := R') J
    have n2 : ∀ v, ((h'.cp (h.sz + 1) h.sz d c F' P' D' R').si 200 2 v).mi h.sz = P' := fun v => by rw [mi_sa (by omega), cpp]
    refine ⟨h', F', P', D', R', ?_, EXT.up (by omega) E2⟩
    rw [dM_of (Nat.le_of_ble_eq_true rfl)]
    simp -implicitDefEqProofs only [D_226_0, k_226_0, D_226_12, k_226_12, k_226_22, D_226_90, k_226_90, R_226, v_iload_n, g_if_lt, v_aload_n, g_getfield, sv_i, rf_s, g_getfieldS, g_icmp_le, g_throw, g_iconst, g_put_i, g_new, g_dup_i, g_dup_r, sv_a, v_callI3, aft_v, aft_n, sv_o, v_callI4, g_astore_n, g_astore_nN, v_callV1, g_istore_n, g_if_ne, g_ireturn, entL, getL, setL, kL_i, kL_r, isI_s, isR_s, isJ_s, gV_s, iV_i, cs0, cs1, cs2, cs3, cs4, dn_nil, kd_si, kd_sl, kd_sw, mr_si, mr_sl, mr_sw, ml_si, ml_sw, mi_sl, k0, ↓if_neg nn, if_neg nn, ↓if_pos hb, if_pos hb]
    rw [D_226_22]
    simp -implicitDefEqProofs only [D_226_0, k_226_0, D_226_12, k_226_12, k_226_22, D_226_90, k_226_90, R_226, v_iload_n, g_if_lt, v_aload_n, g_getfield, sv_i, rf_s, g_getfieldS, g_icmp_le, g_throw, g_iconst, g_put_i, g_new, g_dup_i, g_dup_r, sv_a, v_callI3, aft_v, aft_n, sv_o, v_callI4, g_astore_n, g_astore_nN, v_callV1, g_istore_n, g_if_ne, g_ireturn, entL, getL, setL, kL_i, kL_r, isI_s, isR_s, isJ_s, gV_s, iV_i, cs0, cs1, cs2, cs3, cs4, dn_nil, kd_si, kd_sl, kd_sw, mr_si, mr_sl, mr_sw, ml_si, ml_sw, mi_sl, k0, kk, g_new, sz_si, k1n, ← e2, q0, q1', g1, p0, p6, p8, g2, O.2.2.2.2.1, g6, cp_k, kd_si, k7, k8, cpp, n2, z4, z5, ↓if_true, if_true]
  | inr q =>
    rw [e] at g5
    obtain ⟨h', F', P', D', R', g6, E, -, C⟩ := g5
    have E2 := EXT.tr E1 E
    have l4 : q.ns ≤ 4 := C.1.1.1.2.1
    have k7 : h'.kd 200 = some (.inl 7) := ((E2.2.2.2.2.1 200 (show 200 < h.sz by omega)).1).trans k0
    have k8 : h'.kd h.sz = some (.inl 3) := by
      rw [(E.2.2.2.2.1 h.sz (by rw [ld_sz]; omega)).1]
      exact O.2.2.2.2.1
    have cpp := cp_p (h := h') (F := F') (P := P') (D := D') (R := R') J
    have n2 : ∀ v, ((h'.cp (h.sz + 1) h.sz d c F' P' D' R').si 200 2 v).mi h.sz = P' := fun v => by rw [mi_sa (by omega), cpp]
    have z4 : P' 4 = 0 := C.1.2.2.2.2.2.1
    have z5 : P' 5 = -1 := C.1.2.2.2.2.2.2
    obtain ⟨M, eM⟩ : ∃ M, M = ((h'.cp (h.sz + 1) h.sz d c F' P' D' R').si 200 2 0).si 200 3 (-1) := ⟨_, rfl⟩
    have rr : ∀ f, M.mr 200 f = h.mr 200 f := fun f => by
      rw [eM]
      exact E2.2.2.2.2.2 200 f (show 200 < h.sz by omega) (Or.inr (Or.inl (by omega)))
    have kq : ∀ a, a < h.sz → M.kd a = h.kd a := fun a ha => by
      rw [eM]
      exact (E2.2.2.2.2.1 a ha).1
    have GM : GO M u d b c := ⟨(kq 200 (by omega)).trans k0, (rr 0).trans r0, (rr 5).trans r5, (rr 6).trans r6, (rr 7).trans r7, (rr 8).trans r8, (rr 10).trans r10, (rr 12).trans r12, (rr 13).trans r13, (rr 14).trans r14, (kq 201 (by omega)).trans kb, (kq 273 (by omega)).trans k3, (kq 274 (by omega)).trans k4, (kq 276 (by omega)).trans k5⟩
    have SM : ST M c := ST_of (h := h) (fun o ho => kq _ (by omega)) (fun o ho => by
      rw [eM]
      funext f
      exact E2.2.2.2.2.2 (c + o) f (show c + o < h.sz by omega) (Or.inr (Or.inr (by omega)))) S
    have g7 := m_293 GM
    obtain ⟨M2, eM2⟩ : ∃ M2, M2 = tdN M u d b c := ⟨_, rfl⟩
    have t0 : M2.kd 200 = some (.inl 7) := by rw [eM2]; exact GM.1
    have t7 : M2.mr 200 7 = some c := by
      rw [eM2]
      show zu2 (zu2 (zu2 (zu2 M.mr 200 5 (some d)) 200 6 (some u)) 200 7 (some c)) 200 8 (some b) 200 7 = some c
      rw [z2_ne (by omega), z2_s]
    have rc : ∀ a, a ≠ 200 → M2.mr a = M.mr a := fun a ha => by
      rw [eM2]
      show zu2 (zu2 (zu2 (zu2 M.mr 200 5 (some d)) 200 6 (some u)) 200 7 (some c)) 200 8 (some b) a = M.mr a
      rw [z2_o ha, z2_o ha, z2_o ha, z2_o ha]
    have SM2 : ST M2 c := ST_of (h := M) (fun o ho => by rw [eM2]; rfl) (fun o ho => rc _ (by omega)) SM
    have ic : M2.mi (c + 7) 0 = Int32.ofNat q.ni := by
      rw [eM2]
      show ((((((((M.sr 200 5 (some d)).sr 200 6 (some u)).sr 200 7 (some c)).sr 200 8 (some b)).si 200 4 1).si 200 9 0).si 200 11 0).mi (c + 7)) 0 = _
      rw [mi_sa (by omega), mi_sa (by omega), mi_sa (by omega), mi_sr, mi_sr, mi_sr, mi_sr, eM, mi_sa (by omega), mi_sa (by omega), cpc_7 J]
      exact C.1.2.2.1.1
    refine ⟨h', F', P', D', R', ?_, EXT.up (by omega) E2, C⟩
    rw [← eM]
    rw [← eM2] at g7 ⊢
    rw [dM_of (Nat.le_of_ble_eq_true rfl)]
    simp -implicitDefEqProofs only [D_226_0, k_226_0, D_226_12, k_226_12, k_226_22, D_226_90, k_226_90, R_226, v_iload_n, g_if_lt, v_aload_n, g_getfield, sv_i, rf_s, g_getfieldS, g_icmp_le, g_throw, g_iconst, g_put_i, g_new, g_dup_i, g_dup_r, sv_a, v_callI3, aft_v, aft_n, sv_o, v_callI4, g_astore_n, g_astore_nN, v_callV1, g_istore_n, g_if_ne, g_ireturn, entL, getL, setL, kL_i, kL_r, isI_s, isR_s, isJ_s, gV_s, iV_i, cs0, cs1, cs2, cs3, cs4, dn_nil, kd_si, kd_sl, kd_sw, mr_si, mr_sl, mr_sw, ml_si, ml_sw, mi_sl, k0, ↓if_neg nn, if_neg nn, ↓if_pos hb, if_pos hb]
    rw [D_226_22]
    simp -implicitDefEqProofs only [D_226_0, k_226_0, D_226_12, k_226_12, k_226_22, D_226_90, k_226_90, R_226, v_iload_n, g_if_lt, v_aload_n, g_getfield, sv_i, rf_s, g_getfieldS, g_icmp_le, g_throw, g_iconst, g_put_i, g_new, g_dup_i, g_dup_r, sv_a, v_callI3, aft_v, aft_n, sv_o, v_callI4, g_astore_n, g_astore_nN, v_callV1, g_istore_n, g_if_ne, g_ireturn, entL, getL, setL, kL_i, kL_r, isI_s, isR_s, isJ_s, gV_s, iV_i, cs0, cs1, cs2, cs3, cs4, dn_nil, kd_si, kd_sl, kd_sw, mr_si, mr_sl, mr_sw, ml_si, ml_sw, mi_sl, k0, kk, g_new, sz_si, k1n, ← e2, q0, q1', g1, p0, p6, p8, g2, O.2.2.2.2.1, g6, cp_k, kd_si, k7, k8, cpp, n2, z4, z5, ↓if_neg z_1, if_neg z_1, ← eM, GM.1, g7, t0, t7, st_k SM2, st_r12 SM2, st_ki SM2, ic, retX_int]
end LD
