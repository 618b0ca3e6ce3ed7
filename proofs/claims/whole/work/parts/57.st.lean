-- ===== the grader: its cells =====
def GO (h : Mm) (u d b c : Nat) : Prop := h.kd 200 = some (.inl 7) ∧ h.mr 200 0 = some 201 ∧ h.mr 200 5 = some u ∧ h.mr 200 6 = some d ∧ h.mr 200 7 = some b ∧ h.mr 200 8 = some c ∧ h.mr 200 10 = some 254 ∧ h.mr 200 12 = some 273 ∧ h.mr 200 13 = some 274 ∧ h.mr 200 14 = some 276 ∧ h.kd 201 = some (.inr (.byte, 1500)) ∧ h.kd 273 = some (.inr (.object "FishGrader$State", 8)) ∧ h.kd 274 = some (.inl 10) ∧ h.kd 276 = some (.inr (.int, 12))
theorem go_k {h : Mm} {u d b c : Nat} (H : GO h u d b c) : h.kd 200 = some (.inl 7) := H.1
theorem go_r0 {h : Mm} {u d b c : Nat} (H : GO h u d b c) : h.mr 200 0 = some 201 := H.2.1
theorem go_r5 {h : Mm} {u d b c : Nat} (H : GO h u d b c) : h.mr 200 5 = some u := H.2.2.1
theorem go_r6 {h : Mm} {u d b c : Nat} (H : GO h u d b c) : h.mr 200 6 = some d := H.2.2.2.1
theorem go_r7 {h : Mm} {u d b c : Nat} (H : GO h u d b c) : h.mr 200 7 = some b := H.2.2.2.2.1
theorem go_r8 {h : Mm} {u d b c : Nat} (H : GO h u d b c) : h.mr 200 8 = some c := H.2.2.2.2.2.1
theorem go_r10 {h : Mm} {u d b c : Nat} (H : GO h u d b c) : h.mr 200 10 = some 254 := H.2.2.2.2.2.2.1
theorem go_r12 {h : Mm} {u d b c : Nat} (H : GO h u d b c) : h.mr 200 12 = some 273 := H.2.2.2.2.2.2.2.1
theorem go_r13 {h : Mm} {u d b c : Nat} (H : GO h u d b c) : h.mr 200 13 = some 274 := H.2.2.2.2.2.2.2.2.1
theorem go_r14 {h : Mm} {u d b c : Nat} (H : GO h u d b c) : h.mr 200 14 = some 276 := H.2.2.2.2.2.2.2.2.2.1
theorem go_k201 {h : Mm} {u d b c : Nat} (H : GO h u d b c) : h.kd 201 = some (.inr (.byte, 1500)) := H.2.2.2.2.2.2.2.2.2.2.1
theorem go_k273 {h : Mm} {u d b c : Nat} (H : GO h u d b c) : h.kd 273 = some (.inr (.object "FishGrader$State", 8)) := H.2.2.2.2.2.2.2.2.2.2.2.1
theorem go_k274 {h : Mm} {u d b c : Nat} (H : GO h u d b c) : h.kd 274 = some (.inl 10) := H.2.2.2.2.2.2.2.2.2.2.2.2.1
theorem go_k276 {h : Mm} {u d b c : Nat} (H : GO h u d b c) : h.kd 276 = some (.inr (.int, 12)) := H.2.2.2.2.2.2.2.2.2.2.2.2.2
theorem GO_si {h : Mm} {u d b c x y : Nat} {v : Int32} (H : GO h u d b c) : GO (h.si x y v) u d b c := H
theorem GO_sl {h : Mm} {u d b c x y : Nat} {v : Int64} (H : GO h u d b c) : GO (h.sl x y v) u d b c := H
theorem GO_sw {h : Mm} {u d b c x : Nat} {f : Nat → Int32} (H : GO h u d b c) : GO (h.sw x f) u d b c := H
theorem GO_thr {h : Mm} {u d b c : Nat} (H : GO h u d b c) : GO h.thr u d b c := H
def ST (h : Mm) (b : Nat) : Prop := h.kd b = some (.inl 5) ∧ h.mr b 6 = some (b + 1) ∧ h.mr b 7 = some (b + 2) ∧ h.mr b 8 = some (b + 3) ∧ h.mr b 9 = some (b + 4) ∧ h.mr b 10 = some (b + 5) ∧ h.mr b 11 = some (b + 6) ∧ h.mr b 12 = some (b + 7) ∧ h.mr b 13 = some (b + 13) ∧ h.kd (b + 1) = some (.inr (.int, 10)) ∧ h.kd (b + 2) = some (.inr (.int, 4)) ∧ h.kd (b + 3) = some (.inr (.int, 4)) ∧ h.kd (b + 4) = some (.inr (.int, 4)) ∧ h.kd (b + 5) = some (.inr (.int, 4)) ∧ h.kd (b + 6) = some (.inr (.int, 12)) ∧ h.kd (b + 7) = some (.inl 1) ∧ h.mr (b + 7) 2 = some (b + 8) ∧ h.mr (b + 7) 3 = some (b + 9) ∧ h.mr (b + 7) 4 = some (b + 10) ∧ h.mr (b + 7) 5 = some (b + 11) ∧ h.mr (b + 7) 6 = some (b + 12) ∧ h.kd (b + 8) = some (.inr (.int, 80)) ∧ h.kd (b + 9) = some (.inr (.int, 80)) ∧ h.kd (b + 10) = some (.inr (.int, 80)) ∧ h.kd (b + 11) = some (.inr (.int, 80)) ∧ h.kd (b + 12) = some (.inr (.int, 320)) ∧ h.kd (b + 13) = some (.inl 0) ∧ h.mr (b + 13) 2 = some (b + 14) ∧ h.mr (b + 13) 3 = some (b + 15) ∧ h.mr (b + 13) 4 = some (b + 16) ∧ h.mr (b + 13) 5 = some (b + 17) ∧ h.mr (b + 13) 6 = some (b + 18) ∧ h.kd (b + 14) = some (.inr (.int, 80)) ∧ h.kd (b + 15) = some (.inr (.int, 80)) ∧ h.kd (b + 16) = some (.inr (.int, 80)) ∧ h.kd (b + 17) = some (.inr (.int, 80)) ∧ h.kd (b + 18) = some (.inr (.int, 80))
theorem st_k {h : Mm} {b : Nat} (H : ST h b) : h.kd b = some (.inl 5) := H.1
theorem st_r6 {h : Mm} {b : Nat} (H : ST h b) : h.mr b 6 = some (b + 1) := H.2.1
theorem st_r7 {h : Mm} {b : Nat} (H : ST h b) : h.mr b 7 = some (b + 2) := H.2.2.1
theorem st_r8 {h : Mm} {b : Nat} (H : ST h b) : h.mr b 8 = some (b + 3) := H.2.2.2.1
theorem st_r9 {h : Mm} {b : Nat} (H : ST h b) : h.mr b 9 = some (b + 4) := H.2.2.2.2.1
theorem st_r10 {h : Mm} {b : Nat} (H : ST h b) : h.mr b 10 = some (b + 5) := H.2.2.2.2.2.1
theorem st_r11 {h : Mm} {b : Nat} (H : ST h b) : h.mr b 11 = some (b + 6) := H.2.2.2.2.2.2.1
theorem st_r12 {h : Mm} {b : Nat} (H : ST h b) : h.mr b 12 = some (b + 7) := H.2.2.2.2.2.2.2.1
theorem st_r13 {h : Mm} {b : Nat} (H : ST h b) : h.mr b 13 = some (b + 13) := H.2.2.2.2.2.2.2.2.1
theorem st_k1 {h : Mm} {b : Nat} (H : ST h b) : h.kd (b + 1) = some (.inr (.int, 10)) := H.2.2.2.2.2.2.2.2.2.1
theorem st_k2 {h : Mm} {b : Nat} (H : ST h b) : h.kd (b + 2) = some (.inr (.int, 4)) := H.2.2.2.2.2.2.2.2.2.2.1
theorem st_k3 {h : Mm} {b : Nat} (H : ST h b) : h.kd (b + 3) = some (.inr (.int, 4)) := H.2.2.2.2.2.2.2.2.2.2.2.1
theorem st_k4 {h : Mm} {b : Nat} (H : ST h b) : h.kd (b + 4) = some (.inr (.int, 4)) := H.2.2.2.2.2.2.2.2.2.2.2.2.1
theorem st_k5 {h : Mm} {b : Nat} (H : ST h b) : h.kd (b + 5) = some (.inr (.int, 4)) := H.2.2.2.2.2.2.2.2.2.2.2.2.2.1
theorem st_k6 {h : Mm} {b : Nat} (H : ST h b) : h.kd (b + 6) = some (.inr (.int, 12)) := H.2.2.2.2.2.2.2.2.2.2.2.2.2.2.1
theorem st_ki {h : Mm} {b : Nat} (H : ST h b) : h.kd (b + 7) = some (.inl 1) := H.2.2.2.2.2.2.2.2.2.2.2.2.2.2.2.1
theorem st_i2 {h : Mm} {b : Nat} (H : ST h b) : h.mr (b + 7) 2 = some (b + 8) := H.2.2.2.2.2.2.2.2.2.2.2.2.2.2.2.2.1
theorem st_i3 {h : Mm} {b : Nat} (H : ST h b) : h.mr (b + 7) 3 = some (b + 9) := H.2.2.2.2.2.2.2.2.2.2.2.2.2.2.2.2.2.1
theorem st_i4 {h : Mm} {b : Nat} (H : ST h b) : h.mr (b + 7) 4 = some (b + 10) := H.2.2.2.2.2.2.2.2.2.2.2.2.2.2.2.2.2.2.1
theorem st_i5 {h : Mm} {b : Nat} (H : ST h b) : h.mr (b + 7) 5 = some (b + 11) := H.2.2.2.2.2.2.2.2.2.2.2.2.2.2.2.2.2.2.2.1
theorem st_i6 {h : Mm} {b : Nat} (H : ST h b) : h.mr (b + 7) 6 = some (b + 12) := H.2.2.2.2.2.2.2.2.2.2.2.2.2.2.2.2.2.2.2.2.1
theorem st_k8 {h : Mm} {b : Nat} (H : ST h b) : h.kd (b + 8) = some (.inr (.int, 80)) := H.2.2.2.2.2.2.2.2.2.2.2.2.2.2.2.2.2.2.2.2.2.1
theorem st_k9 {h : Mm} {b : Nat} (H : ST h b) : h.kd (b + 9) = some (.inr (.int, 80)) := H.2.2.2.2.2.2.2.2.2.2.2.2.2.2.2.2.2.2.2.2.2.2.1
theorem st_k10 {h : Mm} {b : Nat} (H : ST h b) : h.kd (b + 10) = some (.inr (.int, 80)) := H.2.2.2.2.2.2.2.2.2.2.2.2.2.2.2.2.2.2.2.2.2.2.2.1
theorem st_k11 {h : Mm} {b : Nat} (H : ST h b) : h.kd (b + 11) = some (.inr (.int, 80)) := H.2.2.2.2.2.2.2.2.2.2.2.2.2.2.2.2.2.2.2.2.2.2.2.2.1
theorem st_k12 {h : Mm} {b : Nat} (H : ST h b) : h.kd (b + 12) = some (.inr (.int, 320)) := H.2.2.2.2.2.2.2.2.2.2.2.2.2.2.2.2.2.2.2.2.2.2.2.2.2.1
theorem st_kb {h : Mm} {b : Nat} (H : ST h b) : h.kd (b + 13) = some (.inl 0) := H.2.2.2.2.2.2.2.2.2.2.2.2.2.2.2.2.2.2.2.2.2.2.2.2.2.2.1
theorem st_b2 {h : Mm} {b : Nat} (H : ST h b) : h.mr (b + 13) 2 = some (b + 14) := H.2.2.2.2.2.2.2.2.2.2.2.2.2.2.2.2.2.2.2.2.2.2.2.2.2.2.2.1
theorem st_b3 {h : Mm} {b : Nat} (H : ST h b) : h.mr (b + 13) 3 = some (b + 15) := H.2.2.2.2.2.2.2.2.2.2.2.2.2.2.2.2.2.2.2.2.2.2.2.2.2.2.2.2.1
theorem st_b4 {h : Mm} {b : Nat} (H : ST h b) : h.mr (b + 13) 4 = some (b + 16) := H.2.2.2.2.2.2.2.2.2.2.2.2.2.2.2.2.2.2.2.2.2.2.2.2.2.2.2.2.2.1
theorem st_b5 {h : Mm} {b : Nat} (H : ST h b) : h.mr (b + 13) 5 = some (b + 17) := H.2.2.2.2.2.2.2.2.2.2.2.2.2.2.2.2.2.2.2.2.2.2.2.2.2.2.2.2.2.2.1
theorem st_b6 {h : Mm} {b : Nat} (H : ST h b) : h.mr (b + 13) 6 = some (b + 18) := H.2.2.2.2.2.2.2.2.2.2.2.2.2.2.2.2.2.2.2.2.2.2.2.2.2.2.2.2.2.2.2.1
theorem st_k14 {h : Mm} {b : Nat} (H : ST h b) : h.kd (b + 14) = some (.inr (.int, 80)) := H.2.2.2.2.2.2.2.2.2.2.2.2.2.2.2.2.2.2.2.2.2.2.2.2.2.2.2.2.2.2.2.2.1
theorem st_k15 {h : Mm} {b : Nat} (H : ST h b) : h.kd (b + 15) = some (.inr (.int, 80)) := H.2.2.2.2.2.2.2.2.2.2.2.2.2.2.2.2.2.2.2.2.2.2.2.2.2.2.2.2.2.2.2.2.2.1
theorem st_k16 {h : Mm} {b : Nat} (H : ST h b) : h.kd (b + 16) = some (.inr (.int, 80)) := H.2.2.2.2.2.2.2.2.2.2.2.2.2.2.2.2.2.2.2.2.2.2.2.2.2.2.2.2.2.2.2.2.2.2.1
theorem st_k17 {h : Mm} {b : Nat} (H : ST h b) : h.kd (b + 17) = some (.inr (.int, 80)) := H.2.2.2.2.2.2.2.2.2.2.2.2.2.2.2.2.2.2.2.2.2.2.2.2.2.2.2.2.2.2.2.2.2.2.2.1
theorem st_k18 {h : Mm} {b : Nat} (H : ST h b) : h.kd (b + 18) = some (.inr (.int, 80)) := H.2.2.2.2.2.2.2.2.2.2.2.2.2.2.2.2.2.2.2.2.2.2.2.2.2.2.2.2.2.2.2.2.2.2.2.2
theorem ST_si {h : Mm} {b x y : Nat} {v : Int32} (H : ST h b) : ST (h.si x y v) b := H
theorem ST_sl {h : Mm} {b x y : Nat} {v : Int64} (H : ST h b) : ST (h.sl x y v) b := H
theorem ST_sw {h : Mm} {b x : Nat} {f : Nat → Int32} (H : ST h b) : ST (h.sw x f) b := H
theorem ST_thr {h : Mm} {b : Nat} (H : ST h b) : ST h.thr b := H
def SU (h : Mm) (u : Nat) : Prop := h.kd u = some (.inl 4) ∧ h.mr u 9 = some (u + 1) ∧ h.mr u 10 = some (u + 2) ∧ h.mr u 12 = some (u + 3) ∧ h.mr u 13 = some (u + 4) ∧ h.mr u 14 = some (u + 5) ∧ h.mr u 15 = some (u + 6) ∧ h.kd (u + 1) = some (.inr (.int, 4)) ∧ h.kd (u + 2) = some (.inr (.int, 4)) ∧ h.kd (u + 3) = some (.inl 2) ∧ h.kd (u + 4) = some (.inl 2) ∧ h.kd (u + 5) = some (.inl 2) ∧ h.kd (u + 6) = some (.inl 2)
theorem su_k {h : Mm} {u : Nat} (H : SU h u) : h.kd u = some (.inl 4) := H.1
theorem su_r9 {h : Mm} {u : Nat} (H : SU h u) : h.mr u 9 = some (u + 1) := H.2.1
theorem su_r10 {h : Mm} {u : Nat} (H : SU h u) : h.mr u 10 = some (u + 2) := H.2.2.1
theorem su_r12 {h : Mm} {u : Nat} (H : SU h u) : h.mr u 12 = some (u + 3) := H.2.2.2.1
theorem su_r13 {h : Mm} {u : Nat} (H : SU h u) : h.mr u 13 = some (u + 4) := H.2.2.2.2.1
theorem su_r14 {h : Mm} {u : Nat} (H : SU h u) : h.mr u 14 = some (u + 5) := H.2.2.2.2.2.1
theorem su_r15 {h : Mm} {u : Nat} (H : SU h u) : h.mr u 15 = some (u + 6) := H.2.2.2.2.2.2.1
theorem su_k1 {h : Mm} {u : Nat} (H : SU h u) : h.kd (u + 1) = some (.inr (.int, 4)) := H.2.2.2.2.2.2.2.1
theorem su_k2 {h : Mm} {u : Nat} (H : SU h u) : h.kd (u + 2) = some (.inr (.int, 4)) := H.2.2.2.2.2.2.2.2.1
theorem su_k3 {h : Mm} {u : Nat} (H : SU h u) : h.kd (u + 3) = some (.inl 2) := H.2.2.2.2.2.2.2.2.2.1
theorem su_k4 {h : Mm} {u : Nat} (H : SU h u) : h.kd (u + 4) = some (.inl 2) := H.2.2.2.2.2.2.2.2.2.2.1
theorem su_k5 {h : Mm} {u : Nat} (H : SU h u) : h.kd (u + 5) = some (.inl 2) := H.2.2.2.2.2.2.2.2.2.2.2.1
theorem su_k6 {h : Mm} {u : Nat} (H : SU h u) : h.kd (u + 6) = some (.inl 2) := H.2.2.2.2.2.2.2.2.2.2.2.2
theorem SU_si {h : Mm} {u x y : Nat} {v : Int32} (H : SU h u) : SU (h.si x y v) u := H
theorem SU_sl {h : Mm} {u x y : Nat} {v : Int64} (H : SU h u) : SU (h.sl x y v) u := H
theorem SU_sw {h : Mm} {u x : Nat} {f : Nat → Int32} (H : SU h u) : SU (h.sw x f) u := H
theorem SU_thr {h : Mm} {u : Nat} (H : SU h u) : SU h.thr u := H
theorem aft_x {P : Pg} {y fin : Nat} {rs : List Rw} {L : Lc} {r : List Value} {E : String} {h2 : Mm} (hd : P.2.2.1 y E = none) : aft P y rs fin L r (some (.inr E, h2)) = some (.inr E, h2) := by
  unfold aft; dsimp only; rw [hd]
theorem aft_c {P : Pg} {y fin pc n : Nat} {rs : List Rw} {L : Lc} {r : List Value} {E : String} {h2 : Mm} (hd : P.2.2.1 y E = some (pc, n)) : aft P y rs fin L r (some (.inr E, h2)) = dB P y pc (catL L n) [] h2 := by
  unfold aft; dsimp only; rw [hd]
theorem R_236 : PG.2.1 236 = none := rfl
theorem m_236n {u d b c : Nat} {h : Mm} (G : GO h u d b c) (hl : h.mi 200 4 = 0) : dM PG 236 [.ref 200] h = some (.inr (exN 0), h.thr) := by
  rw [dM_of (Nat.le_of_ble_eq_true rfl)]
  simp -implicitDefEqProofs only [D_236_0, k_236_0, v_aload_n, g_getfield, sv_z, rf_s, g_if_ne, g_throw, entL, getL, setL, kL_i, kL_r, isI_s, isR_s, isJ_s, gV_s, iV_i, cs0, cs1, cs2, cs3, cs4, dn_nil, kd_si, kd_sl, kd_sw, mr_si, mr_sl, mr_sw, ml_si, ml_sw, mi_sl, go_k G, hl, if_true]
theorem m_236y {u d b c : Nat} {h : Mm} (G : GO h u d b c) (hl : ¬ h.mi 200 4 = 0) : dM PG 236 [.ref 200] h = some (.inl none, h) := by
  rw [dM_of (Nat.le_of_ble_eq_true rfl)]
  simp -implicitDefEqProofs only [D_236_0, k_236_0, D_236_18, k_236_18, R_236, v_aload_n, g_getfield, sv_z, rf_s, g_if_ne, g_throw, g_return, entL, getL, setL, kL_i, kL_r, isI_s, isR_s, isJ_s, gV_s, iV_i, cs0, cs1, cs2, cs3, cs4, dn_nil, kd_si, kd_sl, kd_sw, mr_si, mr_sl, mr_sw, ml_si, ml_sw, mi_sl, go_k G, if_neg hl]
theorem R_287 : PG.2.1 287 = none := rfl
theorem x_287 {E : String} : PG.2.2.1 287 E = none := rfl
theorem m_287n {i : Int32} {u d b c : Nat} {h : Mm} (G : GO h u d b c) (T : ST h b) (hl : h.mi 200 4 = 0) : dM PG 287 [.ref 200, .int i] h = some (.inr (exN 0), h.thr) := by
  rw [dM_of (Nat.le_of_ble_eq_true rfl)]
  simp -implicitDefEqProofs only [D_287_0, k_287_0, v_aload_n, v_callV1, aft_v, aft_n, v_iload_n, g_if_lt, g_getfield, sv_o, rf_s, sv_i, g_icmp_lt, entL, getL, setL, kL_i, kL_r, isI_s, isR_s, isJ_s, gV_s, iV_i, cs0, cs1, cs2, cs3, cs4, dn_nil, kd_si, kd_sl, kd_sw, mr_si, mr_sl, mr_sw, ml_si, ml_sw, mi_sl, go_k G, m_236n G hl, aft_x (x_287)]
theorem m_287x {i : Int32} {u d b c : Nat} {h : Mm} (G : GO h u d b c) (T : ST h b) (hl : ¬ h.mi 200 4 = 0) (hi : i < 0 ∨ ¬ i < h.mi (b + 7) 0) : dM PG 287 [.ref 200, .int i] h = some (.inr (exN 1), h.thr) := by
  rw [dM_of (Nat.le_of_ble_eq_true rfl)]
  by_cases a : i < 0
  · simp -implicitDefEqProofs only [D_287_0, k_287_0, D_287_22, k_287_22, v_aload_n, v_callV1, aft_v, aft_n, v_iload_n, g_if_lt, g_getfield, sv_o, rf_s, sv_i, g_icmp_lt, g_throw, entL, getL, setL, kL_i, kL_r, isI_s, isR_s, isJ_s, gV_s, iV_i, cs0, cs1, cs2, cs3, cs4, dn_nil, kd_si, kd_sl, kd_sw, mr_si, mr_sl, mr_sw, ml_si, ml_sw, mi_sl, go_k G, m_236y G hl, if_pos a]
  · have e : ¬ i < h.mi (b + 7) 0 := hi.resolve_left a
    simp -implicitDefEqProofs only [D_287_0, k_287_0, D_287_22, k_287_22, v_aload_n, v_callV1, aft_v, aft_n, v_iload_n, g_if_lt, g_getfield, sv_o, rf_s, sv_i, g_icmp_lt, g_throw, entL, getL, setL, kL_i, kL_r, isI_s, isR_s, isJ_s, gV_s, iV_i, cs0, cs1, cs2, cs3, cs4, dn_nil, kd_si, kd_sl, kd_sw, mr_si, mr_sl, mr_sw, ml_si, ml_sw, mi_sl, go_k G, go_r7 G, st_k T, st_r12 T, st_ki T, m_236y G hl, if_neg a, if_neg e]
theorem m_287y {i : Int32} {u d b c : Nat} {h : Mm} (G : GO h u d b c) (T : ST h b) (hl : ¬ h.mi 200 4 = 0) (a : ¬ i < 0) (e : i < h.mi (b + 7) 0) : dM PG 287 [.ref 200, .int i] h = some (.inl none, h) := by
  rw [dM_of (Nat.le_of_ble_eq_true rfl)]
  simp -implicitDefEqProofs only [D_287_0, k_287_0, D_287_33, k_287_33, R_287, v_aload_n, v_callV1, aft_v, aft_n, v_iload_n, g_if_lt, g_getfield, sv_o, rf_s, sv_i, g_icmp_lt, g_return, entL, getL, setL, kL_i, kL_r, isI_s, isR_s, isJ_s, gV_s, iV_i, cs0, cs1, cs2, cs3, cs4, dn_nil, kd_si, kd_sl, kd_sw, mr_si, mr_sl, mr_sw, ml_si, ml_sw, mi_sl, go_k G, go_r7 G, st_k T, st_r12 T, st_ki T, m_236y G hl, if_neg a, if_pos e]
theorem R_246 : PG.2.1 246 = none := rfl
theorem x_246 {E : String} : PG.2.2.1 246 E = none := rfl
theorem m_246n {i : Int32} {u d b c : Nat} {h : Mm} (G : GO h u d b c) (T : ST h b) (hl : h.mi 200 4 = 0) : dM PG 246 [.ref 200, .int i] h = some (.inr (exN 0), h.thr) := by
  rw [dM_of (Nat.le_of_ble_eq_true rfl)]
  simp -implicitDefEqProofs only [D_246_0, k_246_0, v_aload_n, v_callV1, aft_v, aft_n, v_iload_n, g_if_lt, g_getfield, sv_o, rf_s, sv_i, g_icmp_lt, entL, getL, setL, kL_i, kL_r, isI_s, isR_s, isJ_s, gV_s, iV_i, cs0, cs1, cs2, cs3, cs4, dn_nil, kd_si, kd_sl, kd_sw, mr_si, mr_sl, mr_sw, ml_si, ml_sw, mi_sl, go_k G, m_236n G hl, aft_x (x_246)]
theorem m_246x {i : Int32} {u d b c : Nat} {h : Mm} (G : GO h u d b c) (T : ST h b) (hl : ¬ h.mi 200 4 = 0) (hi : i < 0 ∨ ¬ i < h.mi (b + 13) 0) : dM PG 246 [.ref 200, .int i] h = some (.inr (exN 1), h.thr) := by
  rw [dM_of (Nat.le_of_ble_eq_true rfl)]
  by_cases a : i < 0
  · simp -implicitDefEqProofs only [D_246_0, k_246_0, D_246_22, k_246_22, v_aload_n, v_callV1, aft_v, aft_n, v_iload_n, g_if_lt, g_getfield, sv_o, rf_s, sv_i, g_icmp_lt, g_throw, entL, getL, setL, kL_i, kL_r, isI_s, isR_s, isJ_s, gV_s, iV_i, cs0, cs1, cs2, cs3, cs4, dn_nil, kd_si, kd_sl, kd_sw, mr_si, mr_sl, mr_sw, ml_si, ml_sw, mi_sl, go_k G, m_236y G hl, if_pos a]
  · have e : ¬ i < h.mi (b + 13) 0 := hi.resolve_left a
    simp -implicitDefEqProofs only [D_246_0, k_246_0, D_246_22, k_246_22, v_aload_n, v_callV1, aft_v, aft_n, v_iload_n, g_if_lt, g_getfield, sv_o, rf_s, sv_i, g_icmp_lt, g_throw, entL, getL, setL, kL_i, kL_r, isI_s, isR_s, isJ_s, gV_s, iV_i, cs0, cs1, cs2, cs3, cs4, dn_nil, kd_si, kd_sl, kd_sw, mr_si, mr_sl, mr_sw, ml_si, ml_sw, mi_sl, go_k G, go_r7 G, st_k T, st_r13 T, st_kb T, m_236y G hl, if_neg a, if_neg e]
theorem m_246y {i : Int32} {u d b c : Nat} {h : Mm} (G : GO h u d b c) (T : ST h b) (hl : ¬ h.mi 200 4 = 0) (a : ¬ i < 0) (e : i < h.mi (b + 13) 0) : dM PG 246 [.ref 200, .int i] h = some (.inl none, h) := by
  rw [dM_of (Nat.le_of_ble_eq_true rfl)]
  simp -implicitDefEqProofs only [D_246_0, k_246_0, D_246_33, k_246_33, R_246, v_aload_n, v_callV1, aft_v, aft_n, v_iload_n, g_if_lt, g_getfield, sv_o, rf_s, sv_i, g_icmp_lt, g_return, entL, getL, setL, kL_i, kL_r, isI_s, isR_s, isJ_s, gV_s, iV_i, cs0, cs1, cs2, cs3, cs4, dn_nil, kd_si, kd_sl, kd_sw, mr_si, mr_sl, mr_sw, ml_si, ml_sw, mi_sl, go_k G, go_r7 G, st_k T, st_r13 T, st_kb T, m_236y G hl, if_neg a, if_pos e]
theorem R_250 : PG.2.1 250 = none := rfl
theorem x_250 {E : String} : PG.2.2.1 250 E = none := rfl
theorem m_250n {i : Int32} {u d b c : Nat} {h : Mm} (G : GO h u d b c) (U : SU h u) (hl : h.mi 200 4 = 0) : dM PG 250 [.ref 200, .int i] h = some (.inr (exN 0), h.thr) := by
  rw [dM_of (Nat.le_of_ble_eq_true rfl)]
  simp -implicitDefEqProofs only [D_250_0, k_250_0, v_aload_n, v_callV1, aft_v, aft_n, v_iload_n, g_if_lt, g_getfield, sv_o, rf_s, sv_i, g_icmp_lt, entL, getL, setL, kL_i, kL_r, isI_s, isR_s, isJ_s, gV_s, iV_i, cs0, cs1, cs2, cs3, cs4, dn_nil, kd_si, kd_sl, kd_sw, mr_si, mr_sl, mr_sw, ml_si, ml_sw, mi_sl, go_k G, m_236n G hl, aft_x (x_250)]
theorem m_250x {i : Int32} {u d b c : Nat} {h : Mm} (G : GO h u d b c) (U : SU h u) (hl : ¬ h.mi 200 4 = 0) (hi : i < 0 ∨ ¬ i < h.mi u 11) : dM PG 250 [.ref 200, .int i] h = some (.inr (exN 1), h.thr) := by
  rw [dM_of (Nat.le_of_ble_eq_true rfl)]
  by_cases a : i < 0
  · simp -implicitDefEqProofs only [D_250_0, k_250_0, D_250_19, k_250_19, v_aload_n, v_callV1, aft_v, aft_n, v_iload_n, g_if_lt, g_getfield, sv_o, rf_s, sv_i, g_icmp_lt, g_throw, entL, getL, setL, kL_i, kL_r, isI_s, isR_s, isJ_s, gV_s, iV_i, cs0, cs1, cs2, cs3, cs4, dn_nil, kd_si, kd_sl, kd_sw, mr_si, mr_sl, mr_sw, ml_si, ml_sw, mi_sl, go_k G, m_236y G hl, if_pos a]
  · have e : ¬ i < h.mi u 11 := hi.resolve_left a
    simp -implicitDefEqProofs only [D_250_0, k_250_0, D_250_19, k_250_19, v_aload_n, v_callV1, aft_v, aft_n, v_iload_n, g_if_lt, g_getfield, sv_o, rf_s, sv_i, g_icmp_lt, g_throw, entL, getL, setL, kL_i, kL_r, isI_s, isR_s, isJ_s, gV_s, iV_i, cs0, cs1, cs2, cs3, cs4, dn_nil, kd_si, kd_sl, kd_sw, mr_si, mr_sl, mr_sw, ml_si, ml_sw, mi_sl, go_k G, go_r5 G, su_k U, m_236y G hl, if_neg a, if_neg e]
theorem m_250y {i : Int32} {u d b c : Nat} {h : Mm} (G : GO h u d b c) (U : SU h u) (hl : ¬ h.mi 200 4 = 0) (a : ¬ i < 0) (e : i < h.mi u 11) : dM PG 250 [.ref 200, .int i] h = some (.inl none, h) := by
  rw [dM_of (Nat.le_of_ble_eq_true rfl)]
  simp -implicitDefEqProofs only [D_250_0, k_250_0, D_250_30, k_250_30, R_250, v_aload_n, v_callV1, aft_v, aft_n, v_iload_n, g_if_lt, g_getfield, sv_o, rf_s, sv_i, g_icmp_lt, g_return, entL, getL, setL, kL_i, kL_r, isI_s, isR_s, isJ_s, gV_s, iV_i, cs0, cs1, cs2, cs3, cs4, dn_nil, kd_si, kd_sl, kd_sw, mr_si, mr_sl, mr_sw, ml_si, ml_sw, mi_sl, go_k G, go_r5 G, su_k U, m_236y G hl, if_neg a, if_pos e]
theorem R_225 : PG.2.1 225 = (some .int) := rfl
theorem x_225 {E : String} : PG.2.2.1 225 E = none := rfl
theorem m_225n {i : Int32} {u d b c : Nat} {h : Mm} (G : GO h u d b c) (T : ST h b) (hl : h.mi 200 4 = 0) : dM PG 225 [.ref 200, .int i] h = some (.inr (exN 0), h.thr) := by
  rw [dM_of (Nat.le_of_ble_eq_true rfl)]
  simp -implicitDefEqProofs only [D_225_0, k_225_0, R_225, v_aload_n, v_iload_n, v_callV2, aft_v, aft_n, g_getfield, sv_o, rf_s, sv_a, v_iaload, inI_0, g_ireturn, entL, getL, setL, kL_i, kL_r, isI_s, isR_s, isJ_s, gV_s, iV_i, cs0, cs1, cs2, cs3, cs4, dn_nil, kd_si, kd_sl, kd_sw, mr_si, mr_sl, mr_sw, ml_si, ml_sw, mi_sl, go_k G, m_287n G T hl, aft_x (x_225)]
theorem m_225x {i : Int32} {u d b c : Nat} {h : Mm} (G : GO h u d b c) (T : ST h b) (hl : ¬ h.mi 200 4 = 0) (hi : i < 0 ∨ ¬ i < h.mi (b + 7) 0) : dM PG 225 [.ref 200, .int i] h = some (.inr (exN 1), h.thr) := by
  rw [dM_of (Nat.le_of_ble_eq_true rfl)]
  simp -implicitDefEqProofs only [D_225_0, k_225_0, R_225, v_aload_n, v_iload_n, v_callV2, aft_v, aft_n, g_getfield, sv_o, rf_s, sv_a, v_iaload, inI_0, g_ireturn, entL, getL, setL, kL_i, kL_r, isI_s, isR_s, isJ_s, gV_s, iV_i, cs0, cs1, cs2, cs3, cs4, dn_nil, kd_si, kd_sl, kd_sw, mr_si, mr_sl, mr_sw, ml_si, ml_sw, mi_sl, go_k G, m_287x G T hl hi, aft_x (x_225)]
theorem m_225y {k : Nat} (hk : k < 80) {u d b c : Nat} {h : Mm} (G : GO h u d b c) (T : ST h b) (hl : ¬ h.mi 200 4 = 0) (e : Int32.ofNat k < h.mi (b + 7) 0) : dM PG 225 [.ref 200, .int (Int32.ofNat k)] h = some (.inl (some (.int (h.mi (b + 8) k))), h) := by
  rw [dM_of (Nat.le_of_ble_eq_true rfl)]
  have b_1 : inb (Int32.ofNat (k)) 80 = true := inb_nat (by omega) (by decide)
  have n_1 : (Int32.ofNat (k)).toNatClampNeg = k := i32_nat (by omega)
  have a : ¬ Int32.ofNat k < 0 := by
    show ¬ Int32.ofNat k < Int32.ofNat 0
    rw [i32_lt (by omega) (by decide)]; omega
  simp -implicitDefEqProofs only [D_225_0, k_225_0, R_225, v_aload_n, v_iload_n, v_callV2, aft_v, aft_n, g_getfield, sv_o, rf_s, sv_a, v_iaload, inI_0, g_ireturn, entL, getL, setL, kL_i, kL_r, isI_s, isR_s, isJ_s, gV_s, iV_i, cs0, cs1, cs2, cs3, cs4, dn_nil, kd_si, kd_sl, kd_sw, mr_si, mr_sl, mr_sw, ml_si, ml_sw, mi_sl, go_k G, m_287y G T hl a e, go_r7 G, st_k T, st_r12 T, st_ki T, st_i2 T, st_k8 T, b_1, n_1, retX_int]
