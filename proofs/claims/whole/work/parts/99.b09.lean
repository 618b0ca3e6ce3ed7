-- ===== a tick; many ticks =====
def tiC (D R : Nat → Nat → Int32) : Nat → Nat → Int32 := if gsGo (D 1) (D 2) (gtI (D 0 7) (D 0 4) (D 0 5) (D 0 3) R (cN (R 13 0)) (cN (R 13 1)) 0 0) (cN (D 0 8)) 0 = true then gtI (D 0 7) (D 0 4) (D 0 5) (D 0 3) R (cN (R 13 0)) (cN (R 13 1)) else hnC D (gtI (D 0 7) (D 0 4) (D 0 5) (D 0 3) R (cN (R 13 0)) (cN (R 13 1)))
def tiM (pl S : Nat → Int32) : Nat → Int32 := if stGo pl (tkI pl S (cN (S 8)) 0) (cN (pl 16)) 0 = true then tkI pl S (cN (S 8)) else hnM pl (tkI pl S (cN (S 8)))
section TK2
variable {ns m tm st : Nat} {du : Nat} {R D : Nat → Nat → Int32} {S pl : Nat → Int32}
theorem ti_ok (Q : PlR ns st du D pl) (Z : RS ns du m tm R S) (ht : tm < 1000000) : RS ns du m (tm + 1) (tiC D R) (tiM pl S) ∧ (∀ (h : Mm) (b u : Nat), u + 7 ≤ b → ST h b → SU h u → (∀ o, o < 7 → h.mi (u + o) = D o) → dM PG 276 [.ref b, .ref u] (h.sb b R) = some (.inl none, h.sb b (tiC D R))) ∧ ∀ (h : Mm) (s : Nat), MO h → s ≠ 279 → h.kd s = some (.inr (.int, 1168)) → h.mi 279 = pl → dM PG 187 [.ref 277, .ref s] (h.sw s S) = some (.inl none, h.sw s (tiM pl S)) := by
  obtain ⟨i, pc, n, q, E, A, J⟩ := Z
  have N := A.1
  obtain ⟨⟨a0, a5, a7, a71, a13, a131⟩, n1, n2, n3, n4, n5, n6, n7⟩ := N
  have Q0 := Q
  obtain ⟨⟨p1, p2⟩, ⟨d8, p16, d11, p7, q4, q5, q6⟩, ps, pk, ⟨p6, q7⟩, -⟩ := Q
  have c13 : cN (R 13 0) = n := by rw [a13]; exact cN_of (by omega)
  have c131 : cN (R 13 1) = q := by rw [a131]; exact cN_of (by omega)
  have hS8 : S 8 = Int32.ofNat n := E.1.2.2.2.2.2.2.2.2.trans a13
  have cS8 : cN (S 8) = n := by rw [hS8]; exact cN_of (by omega)
  have c8 : cN (D 0 8) = st := by rw [d8]; exact cN_of (by omega)
  have c16 : cN (pl 16) = st := by rw [p16]; exact cN_of (by omega)
  have e1 := tc_eq (me := D 0 7) (mk := D 0 4) (sto := D 0 5) (pl := pl) E (by omega) (by omega) (by omega) (by omega) p2.symm (p1 4 (by decide)).symm (p1 5 (by decide)).symm
  have i1 := tc_iv (me := D 0 7) (mk := D 0 4) (sto := D 0 5) A ht
  obtain ⟨q', e2, i2, r10, s6⟩ := ic_go (per := D 0 3) q7 (n - q) 81 q _ _ (by omega) (by omega) e1 i1
  have J1 : EqJ m (gtI (D 0 7) (D 0 4) (D 0 5) (D 0 3) R n q) (tkI pl S n) := by
    refine EqJ_c J ?_ (fun j hj => ?_)
    · unfold tkI
      rw [← p1 3 (by decide), s6, tkCo (by omega)]
    · unfold gtI
      rw [r10, gtCo (by omega)]
  have E1 : EqR ns m pc n (Int32.ofNat du) (gtI (D 0 7) (D 0 4) (D 0 5) (D 0 3) R n q) (tkI pl S n) := by
    unfold gtI tkI
    rw [← p1 3 (by decide)]
    exact e2
  have Z1 : RS ns du m (tm + 1) (gtI (D 0 7) (D 0 4) (D 0 5) (D 0 3) R n q) (tkI pl S n) := ⟨i, pc, n, q', E1, i2, J1⟩
  have t0 : tkI pl S n 0 = gtI (D 0 7) (D 0 4) (D 0 5) (D 0 3) R n q 0 0 := E1.1.1
  have se : gsGo (D 1) (D 2) (gtI (D 0 7) (D 0 4) (D 0 5) (D 0 3) R n q 0 0) st 0 = stGo pl (tkI pl S n 0) st 0 := by
    rw [t0]
    exact st_eq st 0 (fun j _ hj => ps j (by omega))
  have h01 : S 0 + 1 ≠ -1 := by
    rw [E.1.1, a0]
    have : Int32.ofNat tm + 1 = Int32.ofNat (tm + 1) := i32_add (b := 1)
    rw [this]
    exact oN_s (by omega)
  obtain ⟨Zh, hC, hM⟩ := hn_ok Q0 Z1
  cases c : stGo pl (tkI pl S n 0) st 0 with
  | true =>
    have eC : tiC D R = gtI (D 0 7) (D 0 4) (D 0 5) (D 0 3) R n q := by
      unfold tiC
      rw [c13, c131, c8, se, c, if_pos rfl]
    have eM : tiM pl S = tkI pl S n := by
      unfold tiM
      rw [cS8, c16, c, if_pos rfl]
    rw [eC, eM]
    refine ⟨Z1, fun h b u hub Tb Uu hD => ?_, fun h s H h279 hks hp => ?_⟩
    · have hD0 : h.mi u = D 0 := by
        have := hD 0 (by decide)
        rw [Nat.add_zero] at this
        exact this
      have g := m_276s (ns := st) hub (by omega) n5 q4 Tb Uu a13 a131 (by rw [hD0]; exact d8) (by rw [hD0, hD 1 (by decide), hD 2 (by decide), se, c])
      rw [hD0] at g
      exact g
    · have g := m_187s (s := s) (n := n) (ns := st) (h := h.sw s S) (by omega) q4 H h279 hks (by rw [mi_sw]; exact hS8) (by rw [mi_sw]; exact h01) (by rw [mi_swo (Ne.symm h279), hp]; exact p16) (by rw [mi_swo (Ne.symm h279), hp, mi_sw, c])
      rw [mi_swo (Ne.symm h279), hp, mi_sw, sw_sw] at g
      exact g
  | false =>
    have eC : tiC D R = hnC D (gtI (D 0 7) (D 0 4) (D 0 5) (D 0 3) R n q) := by
      unfold tiC
      rw [c13, c131, c8, se, c, if_neg Bool.false_ne_true]
    have eM : tiM pl S = hnM pl (tkI pl S n) := by
      unfold tiM
      rw [cS8, c16, c, if_neg Bool.false_ne_true]
    rw [eC, eM]
    refine ⟨Zh, fun h b u hub Tb Uu hD => ?_, fun h s H h279 hks hp => ?_⟩
    · have hD0 : h.mi u = D 0 := by
        have := hD 0 (by decide)
        rw [Nat.add_zero] at this
        exact this
      refine m_276h (ns := st) hub (by omega) n5 q4 Tb Uu a13 a131 (by rw [hD0]; exact d8) (by rw [hD0, hD 1 (by decide), hD 2 (by decide), se, c]) ?_
      rw [hD0]
      exact hC h b u hub Tb Uu hD
    · have g2 := hM h s H h279 hks hp
      have g := m_187h (s := s) (n := n) (ns := st) (h := h.sw s S) (S5 := hnM pl (tkI pl S n)) (by omega) q4 H h279 hks (by rw [mi_sw]; exact hS8) (by rw [mi_sw]; exact h01) (by rw [mi_swo (Ne.symm h279), hp]; exact p16) (by rw [mi_swo (Ne.symm h279), hp, mi_sw, c]) (by rw [mi_swo (Ne.symm h279), hp, mi_sw, sw_sw, sw_sw]; exact g2)
      rw [sw_sw] at g
      exact g
theorem it_ok (Q : PlR ns st du D pl) : ∀ (d tm : Nat) (R : Nat → Nat → Int32) (S : Nat → Int32), RS ns du m tm R S → tm + d ≤ 1000000 → RS ns du m (tm + d) (it2 (tiC D) d R) (it (tiM pl) d S) := by
  intro d
  induction d with
  | zero => intro tm R S Z _; exact Z
  | succ d ih =>
    intro tm R S Z ht
    have := ih (tm + 1) (tiC D R) (tiM pl S) (ti_ok Q Z (by omega)).1 (by omega)
    rw [show tm + 1 + d = tm + (d + 1) by omega] at this
    exact this
theorem l_268b {b u n : Nat} (Q : PlR ns st du D pl) (hn : n < 2147483648) {h : Mm} (hub : u + 7 ≤ b) (Tb : ST h b) (Uu : SU h u) (hD : ∀ o, o < 7 → h.mi (u + o) = D o) : ∀ (d k tm : Nat) (R : Nat → Nat → Int32) (S : Nat → Int32), k + d = n → RS ns du m tm R S → tm + d ≤ 1000000 → dB PG 268 2 [some (.ref b), some (.ref u), some (.int (Int32.ofNat n)), some (.int (Int32.ofNat k))] [] (h.sb b R) = some (.inl none, h.sb b (it2 (tiC D) d R)) := by
  intro d
  induction d with
  | zero =>
    intro k tm R S hk _ _
    have e : Int32.ofNat n ≤ Int32.ofNat k := by rw [i32_le (by omega) (by omega)]; omega
    simp -implicitDefEqProofs only [D_268_2, k_268_2, D_268_18, k_268_18, R_268, v_iload_n, g_icmp_ge, v_aload_n, v_callV2, aft_v, aft_n, v_iinc, g_goto, g_return, entL, getL, setL, kL_i, kL_r, isI_s, isR_s, isJ_s, gV_s, iV_i, cs0, cs1, cs2, cs3, cs4, dn_nil, kd_si, kd_sl, kd_sw, mr_si, mr_sl, mr_sw, ml_si, ml_sw, mi_sl, ↓if_pos e, if_pos e]
    rfl
  | succ d ih =>
    intro k tm R S hk Z ht
    have e : ¬ Int32.ofNat n ≤ Int32.ofNat k := by rw [i32_le (by omega) (by omega)]; omega
    have s1 : Int32.ofNat k + 1 = Int32.ofNat (k + 1) := i32_add (b := 1)
    have z : it2 (tiC D) (d + 1) R = it2 (tiC D) d (tiC D R) := rfl
    obtain ⟨Z1, hC, -⟩ := ti_ok Q Z (by omega)
    have g := hC h b u hub Tb Uu hD
    rw [z, ← ih (k + 1) (tm + 1) (tiC D R) _ (by omega) Z1 (by omega), D_268_2]
    simp -implicitDefEqProofs only [k_268_2, v_iload_n, g_icmp_ge, v_aload_n, v_callV2, aft_v, aft_n, v_iinc, g_goto, entL, getL, setL, kL_i, kL_r, isI_s, isR_s, isJ_s, gV_s, iV_i, cs0, cs1, cs2, cs3, cs4, dn_nil, kd_si, kd_sl, kd_sw, mr_si, mr_sl, mr_sw, ml_si, ml_sw, mi_sl, kd_sb, st_k Tb, ↓if_neg e, if_neg e, g, s1]
theorem s_268 {b u n : Nat} (Q : PlR ns st du D pl) (Z : RS ns du m tm R S) (hn : tm + n ≤ 1000000) {h : Mm} (hub : u + 7 ≤ b) (Tb : ST h b) (Uu : SU h u) (hD : ∀ o, o < 7 → h.mi (u + o) = D o) : dM PG 268 [.ref b, .ref u, .int (Int32.ofNat n)] (h.sb b R) = some (.inl none, h.sb b (it2 (tiC D) n R)) := by
  rw [dM_of (Nat.le_of_ble_eq_true rfl)]
  simp -implicitDefEqProofs only [D_268_0, k_268_0, g_iconst, g_istore_n, entL, getL, setL, kL_i, kL_r, isI_s, isR_s, isJ_s, gV_s, iV_i, cs0, cs1, cs2, cs3, cs4, dn_nil, kd_si, kd_sl, kd_sw, mr_si, mr_sl, mr_sw, ml_si, ml_sw, mi_sl]
  exact l_268b Q (by omega) hub Tb Uu hD n 0 tm R S (by omega) Z (by omega)
theorem l_176b {s n : Nat} (Q : PlR ns st du D pl) (hn : n < 2147483648) {h : Mm} (H : MO h) (h279 : s ≠ 279) (hks : h.kd s = some (.inr (.int, 1168))) (hp : h.mi 279 = pl) : ∀ (d k tm : Nat) (R : Nat → Nat → Int32) (S : Nat → Int32), k + d = n → RS ns du m tm R S → tm + d ≤ 1000000 → dB PG 176 2 [some (.ref 277), some (.ref s), some (.int (Int32.ofNat n)), some (.int (Int32.ofNat k))] [] (h.sw s S) = some (.inl none, h.sw s (it (tiM pl) d S)) := by
  intro d
  induction d with
  | zero =>
    intro k tm R S hk _ _
    have e : Int32.ofNat n ≤ Int32.ofNat k := by rw [i32_le (by omega) (by omega)]; omega
    simp -implicitDefEqProofs only [D_176_2, k_176_2, D_176_18, k_176_18, R_176, v_iload_n, g_icmp_ge, v_aload_n, v_callV2, aft_v, aft_n, v_iinc, g_goto, g_return, entL, getL, setL, kL_i, kL_r, isI_s, isR_s, isJ_s, gV_s, iV_i, cs0, cs1, cs2, cs3, cs4, dn_nil, kd_si, kd_sl, kd_sw, mr_si, mr_sl, mr_sw, ml_si, ml_sw, mi_sl, ↓if_pos e, if_pos e]
    rfl
  | succ d ih =>
    intro k tm R S hk Z ht
    have e : ¬ Int32.ofNat n ≤ Int32.ofNat k := by rw [i32_le (by omega) (by omega)]; omega
    have s1 : Int32.ofNat k + 1 = Int32.ofNat (k + 1) := i32_add (b := 1)
    have z : it (tiM pl) (d + 1) S = it (tiM pl) d (tiM pl S) := rfl
    obtain ⟨Z1, -, hM⟩ := ti_ok Q Z (by omega)
    have g := hM h s H h279 hks hp
    rw [z, ← ih (k + 1) (tm + 1) _ (tiM pl S) (by omega) Z1 (by omega), D_176_2]
    simp -implicitDefEqProofs only [k_176_2, v_iload_n, g_icmp_ge, v_aload_n, v_callV2, aft_v, aft_n, v_iinc, g_goto, entL, getL, setL, kL_i, kL_r, isI_s, isR_s, isJ_s, gV_s, iV_i, cs0, cs1, cs2, cs3, cs4, dn_nil, kd_si, kd_sl, kd_sw, mr_si, mr_sl, mr_sw, ml_si, ml_sw, mi_sl, mk_277 H, ↓if_neg e, if_neg e, g, s1]
theorem s_176 {s n : Nat} (Q : PlR ns st du D pl) (Z : RS ns du m tm R S) (hn : tm + n ≤ 1000000) {h : Mm} (H : MO h) (h279 : s ≠ 279) (hks : h.kd s = some (.inr (.int, 1168))) (hp : h.mi 279 = pl) : dM PG 176 [.ref 277, .ref s, .int (Int32.ofNat n)] (h.sw s S) = some (.inl none, h.sw s (it (tiM pl) n S)) := by
  rw [dM_of (Nat.le_of_ble_eq_true rfl)]
  simp -implicitDefEqProofs only [D_176_0, k_176_0, g_iconst, g_istore_n, entL, getL, setL, kL_i, kL_r, isI_s, isR_s, isJ_s, gV_s, iV_i, cs0, cs1, cs2, cs3, cs4, dn_nil, kd_si, kd_sl, kd_sw, mr_si, mr_sl, mr_sw, ml_si, ml_sw, mi_sl]
  exact l_176b Q (by omega) H h279 hks hp n 0 tm R S (by omega) Z (by omega)
end TK2
