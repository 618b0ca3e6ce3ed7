-- ===== the grader: what came before is kept =====
def Mm.sq (h : Mm) (f : Nat → Option Nat) : Mm := (h.1, h.2.1, h.mi, h.ml, zu h.mr 273 f)
theorem kd_sq {h : Mm} {f : Nat → Option Nat} : (h.sq f).kd = h.kd := rfl
theorem mi_sq {h : Mm} {f : Nat → Option Nat} : (h.sq f).mi = h.mi := rfl
theorem ml_sq {h : Mm} {f : Nat → Option Nat} : (h.sq f).ml = h.ml := rfl
theorem sz_sq {h : Mm} {f : Nat → Option Nat} : (h.sq f).sz = h.sz := rfl
theorem mr_sq {h : Mm} {f : Nat → Option Nat} : (h.sq f).mr 273 = f := zu_same (f := h.mr) (k := 273) (v := f)
theorem mr_sqo {h : Mm} {f : Nat → Option Nat} {a : Nat} (ha : a ≠ 273) : (h.sq f).mr a = h.mr a := zu_o (f := h.mr) ha
theorem sr_sq {h : Mm} {k : Nat} {v : Option Nat} : h.sr 273 k v = h.sq (zu (h.mr 273) k v) := rfl
theorem sq_sq {h : Mm} {f g : Nat → Option Nat} : (h.sq f).sq g = h.sq g := by
  show (h.1, h.2.1, h.mi, h.ml, zu (zu h.mr 273 f) 273 g) = (h.1, h.2.1, h.mi, h.ml, zu h.mr 273 g)
  have e : zu (zu h.mr 273 f) 273 g = zu h.mr 273 g := by
    funext j; unfold zu; split <;> rfl
  rw [e]
theorem sq_id {h : Mm} : h.sq (h.mr 273) = h := by
  show (h.1, h.2.1, h.mi, h.ml, zu h.mr 273 (h.mr 273)) = h
  have e : zu h.mr 273 (h.mr 273) = h.mr := by
    funext j; unfold zu; split
    · rename_i e; rw [e]
    · rfl
  rw [e]; rfl
theorem n200 : (200 : Nat) ≠ 273 := by decide
def roI (f : Nat → Option Nat) (i : Nat) : Nat → Option Nat := fun j => if j + 1 < i then f (j + 1) else f j
def roF (f : Nat → Option Nat) : Nat → Option Nat := fun j => if j < 7 then f (j + 1) else if j = 7 then f 0 else f j
theorem roI_st {f : Nat → Option Nat} {k : Nat} (h1 : 1 ≤ k) : zu (roI f k) (k - 1) (roI f k k) = roI f (k + 1) := by
  funext j
  show (if j = k - 1 then (if k + 1 < k then f (k + 1) else f k) else (if j + 1 < k then f (j + 1) else f j)) = (if j + 1 < k + 1 then f (j + 1) else f j)
  by_cases c : j = k - 1
  · rw [if_pos c, if_neg (by omega), if_pos (by omega), show j + 1 = k by omega]
  · rw [if_neg c]
    by_cases c2 : j + 1 < k
    · rw [if_pos c2, if_pos (by omega)]
    · rw [if_neg c2, if_neg (by omega)]
theorem roI_e {f : Nat → Option Nat} : zu (roI f 8) 7 (f 0) = roF f := by
  funext j
  show (if j = 7 then f 0 else if j + 1 < 8 then f (j + 1) else f j) = (if j < 7 then f (j + 1) else if j = 7 then f 0 else f j)
  by_cases c : j = 7
  · rw [if_pos c, if_neg (by omega), if_pos c]
  · rw [if_neg c, if_neg c]
    by_cases c2 : j < 7
    · rw [if_pos c2, if_pos (by omega)]
    · rw [if_neg c2, if_neg (by omega)]
theorem ic_0 : inb 0 8 = true := by decide
theorem ic_7 : inb 7 8 = true := by decide
theorem R_309 : PG.2.1 309 = none := rfl
theorem m_309 {u d b c : Nat} {h : Mm} (G : GO h u d b c) {hb : Nat → Nat} (hf : ∀ j, j < 8 → h.mr 273 j = some (hb j) ∧ h.kd (hb j) = some (.inl 5)) : dM PG 309 [.ref 200] h = some (.inl none, (h.sq (roF (h.mr 273))).si 200 11 7) := by
  rw [dM_of (Nat.le_of_ble_eq_true rfl)]
  obtain ⟨f0, k0⟩ := hf 0 (by decide)
  simp -implicitDefEqProofs only [D_309_0, k_309_0, v_aload_n, g_getfield, sv_a, rf_s, g_iconst, v_aaload, inA_0, inA_1, g_astore_n, g_astore_nN, g_istore_n, entL, getL, setL, kL_i, kL_r, isI_s, isR_s, isJ_s, gV_s, iV_i, cs0, cs1, cs2, cs3, cs4, dn_nil, kd_si, kd_sl, kd_sw, mr_si, mr_sl, mr_sw, ml_si, ml_sw, mi_sl, go_k G, go_r0 G, go_r5 G, go_r6 G, go_r7 G, go_r8 G, go_r10 G, go_r12 G, go_r13 G, go_r14 G, go_k201 G, go_k273 G, go_k274 G, go_k276 G, ic_0, ix_0, f0]
  have hI : h.sq (roI (h.mr 273) 1) = h := by
    have : roI (h.mr 273) 1 = h.mr 273 := by
      funext j; unfold roI; rw [if_neg (by omega)]
    rw [this, sq_id]
  obtain ⟨tl, e⟩ := lm (P := PG) (y := 309) (pc := 9) (n := 8) (o := 1) (h := fun i => h.sq (roI (h.mr 273) i)) (L := fun k tl => some (.ref 200) :: some (.ref (hb 0)) :: some (.int (Int32.ofNat k)) :: tl) (by
    intro k tl h1 hk
    refine ⟨tl, ?_⟩
    have e : ¬ (8 : Int32) ≤ Int32.ofNat k := by
      show ¬ Int32.ofNat 8 ≤ Int32.ofNat k
      rw [i32_le (by omega) (by omega)]; omega
    have s1 : Int32.ofNat (k) + 1 = Int32.ofNat (k + 1) := i32_add (b := 1)
    have s2 : Int32.ofNat k - 1 = Int32.ofNat (k - 1) := i32_pred (by omega)
    have b_1 : inb (Int32.ofNat (k)) 8 = true := inb_nat (by omega) (by decide)
    have n_1 : (Int32.ofNat (k)).toNatClampNeg = k := i32_nat (by omega)
    have b_2 : inb (Int32.ofNat (k - 1)) 8 = true := inb_nat (by omega) (by decide)
    have n_2 : (Int32.ofNat (k - 1)).toNatClampNeg = k - 1 := i32_nat (by omega)
    obtain ⟨fk, kk⟩ := hf k hk
    have r1 : roI (h.mr 273) k k = some (hb k) := by
      unfold roI; rw [if_neg (by omega), fk]
    rw [D_309_9, ← roI_st h1, r1]
    simp -implicitDefEqProofs only [D_309_0, k_309_0, k_309_9, D_309_35, k_309_35, R_309, v_aload_n, g_getfield, sv_a, rf_s, g_iconst, v_aaload, inA_0, inA_1, g_astore_n, g_astore_nN, g_istore_n, v_iload_n, g_bipush, g_icmp_ge, g_isub, v_aastore, wrA_0, v_iinc, g_goto, g_put_i, g_return, entL, getL, setL, kL_i, kL_r, isI_s, isR_s, isJ_s, gV_s, iV_i, cs0, cs1, cs2, cs3, cs4, dn_nil, kd_si, kd_sl, kd_sw, mr_si, mr_sl, mr_sw, ml_si, ml_sw, mi_sl, go_k G, go_r0 G, go_r5 G, go_r6 G, go_r7 G, go_r8 G, go_r10 G, go_r12 G, go_r13 G, go_r14 G, go_k201 G, go_k273 G, go_k274 G, go_k276 G, kd_sq, mr_sqo n200, mr_sq, ↓if_neg e, if_neg e, s2, b_1, n_1, b_2, n_2, r1, kk, sr_sq, sq_sq, s1]) 7 1 [] (by omega) (by omega)
  rw [hI] at e
  have ee : (8 : Int32) ≤ Int32.ofNat 8 := by decide
  refine Eq.trans ?_ (e.trans ?_)
  · rfl
  · rw [D_309_9, ← roI_e, f0]
    simp -implicitDefEqProofs only [D_309_0, k_309_0, k_309_9, D_309_35, k_309_35, R_309, v_aload_n, g_getfield, sv_a, rf_s, g_iconst, v_aaload, inA_0, inA_1, g_astore_n, g_astore_nN, g_istore_n, v_iload_n, g_bipush, g_icmp_ge, g_isub, v_aastore, wrA_0, v_iinc, g_goto, g_put_i, g_return, entL, getL, setL, kL_i, kL_r, isI_s, isR_s, isJ_s, gV_s, iV_i, cs0, cs1, cs2, cs3, cs4, dn_nil, kd_si, kd_sl, kd_sw, mr_si, mr_sl, mr_sw, ml_si, ml_sw, mi_sl, go_k G, go_r0 G, go_r5 G, go_r6 G, go_r7 G, go_r8 G, go_r10 G, go_r12 G, go_r13 G, go_r14 G, go_k201 G, go_k273 G, go_k274 G, go_k276 G, kd_sq, mr_sqo n200, mr_sq, ↓if_pos ee, if_pos ee, ic_7, ix_7, k0, sr_sq, sq_sq]
theorem R_253 : PG.2.1 253 = none := rfl
theorem m_253a {u d b c n m k x : Nat} (hk8 : k < 8) (hm : m ≤ 80) (hn : n ≤ 80) (hbx : b + 19 ≤ x ∨ x + 19 ≤ b) (hx2 : 200 < x) {h : Mm} (G : GO h u d b c) (Tb : ST h b) (Tx : ST h x) (h7 : h.mi (b + 7) 0 = Int32.ofNat n) (h13 : h.mi (b + 13) 0 = Int32.ofNat m) (h11 : h.mi 200 11 = Int32.ofNat k) (hx : h.mr 273 k = some x) : dM PG 253 [.ref 200] h = some (.inl none, (h.sb x (cpR n m (rowsAt h b) (rowsAt h x))).si 200 11 (Int32.ofNat (k + 1))) := by
  rw [dM_of (Nat.le_of_ble_eq_true rfl)]
  have z : Int32.ofNat k < 8 := by
    show Int32.ofNat k < Int32.ofNat 8
    rw [i32_lt (by omega) (by omega)]; exact hk8
  have b_1 : inb (Int32.ofNat (k)) 8 = true := inb_nat (by omega) (by decide)
  have n_1 : (Int32.ofNat (k)).toNatClampNeg = k := i32_nat (by omega)
  have s1 : Int32.ofNat (k) + 1 = Int32.ofNat (k + 1) := i32_add (b := 1)
  have g := m_249 hm hn hbx Tb Tx (Q := rowsAt h x) h7 h13
  rw [sb_id] at g
  have w : ∀ Q, (h.sb x Q).mi 200 = h.mi 200 := fun Q => mi_sbo (by omega)
  simp -implicitDefEqProofs only [D_253_0, k_253_0, D_253_13, k_253_13, D_253_45, k_253_45, R_253, v_aload_n, g_getfield, sv_i, rf_s, g_bipush, g_icmp_lt, v_callV1, aft_v, aft_n, sv_a, v_aaload, inA_0, inA_1, g_astore_n, g_astore_nN, g_ifnonnull, g_ifnonnullN, g_new, g_dup_i, g_dup_r, v_callI1, v_aastore, wrA_0, sv_o, v_callV2, g_iconst, g_iadd, g_put_i, g_return, entL, getL, setL, kL_i, kL_r, isI_s, isR_s, isJ_s, gV_s, iV_i, cs0, cs1, cs2, cs3, cs4, dn_nil, kd_si, kd_sl, kd_sw, mr_si, mr_sl, mr_sw, ml_si, ml_sw, mi_sl, go_k G, go_r0 G, go_r5 G, go_r6 G, go_r7 G, go_r8 G, go_r10 G, go_r12 G, go_r13 G, go_r14 G, go_k201 G, go_k273 G, go_k274 G, go_k276 G, st_k Tx, h11, ↓if_pos z, if_pos z, b_1, n_1, hx, g, kd_sb, mr_sb, w, s1]
theorem ST_of {h h' : Mm} {x : Nat} (hk : ∀ o, o < 19 → h'.kd (x + o) = h.kd (x + o)) (hr : ∀ o, o < 19 → h'.mr (x + o) = h.mr (x + o)) (T : ST h x) : ST h' x := by
  have k0 : h'.kd x = h.kd x := hk 0 (by decide)
  have r0 : h'.mr x = h.mr x := hr 0 (by decide)
  have r7 : h'.mr (x + 7) = h.mr (x + 7) := hr 7 (by decide)
  have r13 : h'.mr (x + 13) = h.mr (x + 13) := hr 13 (by decide)
  have k1 : h'.kd (x + 1) = h.kd (x + 1) := hk 1 (by decide)
  have k2 : h'.kd (x + 2) = h.kd (x + 2) := hk 2 (by decide)
  have k3 : h'.kd (x + 3) = h.kd (x + 3) := hk 3 (by decide)
  have k4 : h'.kd (x + 4) = h.kd (x + 4) := hk 4 (by decide)
  have k5 : h'.kd (x + 5) = h.kd (x + 5) := hk 5 (by decide)
  have k6 : h'.kd (x + 6) = h.kd (x + 6) := hk 6 (by decide)
  have k7 : h'.kd (x + 7) = h.kd (x + 7) := hk 7 (by decide)
  have k8 : h'.kd (x + 8) = h.kd (x + 8) := hk 8 (by decide)
  have k9 : h'.kd (x + 9) = h.kd (x + 9) := hk 9 (by decide)
  have k10 : h'.kd (x + 10) = h.kd (x + 10) := hk 10 (by decide)
  have k11 : h'.kd (x + 11) = h.kd (x + 11) := hk 11 (by decide)
  have k12 : h'.kd (x + 12) = h.kd (x + 12) := hk 12 (by decide)
  have k13 : h'.kd (x + 13) = h.kd (x + 13) := hk 13 (by decide)
  have k14 : h'.kd (x + 14) = h.kd (x + 14) := hk 14 (by decide)
  have k15 : h'.kd (x + 15) = h.kd (x + 15) := hk 15 (by decide)
  have k16 : h'.kd (x + 16) = h.kd (x + 16) := hk 16 (by decide)
  have k17 : h'.kd (x + 17) = h.kd (x + 17) := hk 17 (by decide)
  have k18 : h'.kd (x + 18) = h.kd (x + 18) := hk 18 (by decide)
  unfold ST at T ⊢
  simp only [k0, r0, r7, r13, k1, k2, k3, k4, k5, k6, k7, k8, k9, k10, k11, k12, k13, k14, k15, k16, k17, k18]
  exact T
theorem SU_of {h h' : Mm} {x : Nat} (hk : ∀ o, o < 7 → h'.kd (x + o) = h.kd (x + o)) (hr : h'.mr x = h.mr x) (T : SU h x) : SU h' x := by
  have k0 : h'.kd x = h.kd x := hk 0 (by decide)
  have k1 : h'.kd (x + 1) = h.kd (x + 1) := hk 1 (by decide)
  have k2 : h'.kd (x + 2) = h.kd (x + 2) := hk 2 (by decide)
  have k3 : h'.kd (x + 3) = h.kd (x + 3) := hk 3 (by decide)
  have k4 : h'.kd (x + 4) = h.kd (x + 4) := hk 4 (by decide)
  have k5 : h'.kd (x + 5) = h.kd (x + 5) := hk 5 (by decide)
  have k6 : h'.kd (x + 6) = h.kd (x + 6) := hk 6 (by decide)
  unfold SU at T ⊢
  simp only [k0, hr, k1, k2, k3, k4, k5, k6]
  exact T
theorem ST_sq {h : Mm} {x : Nat} {f : Nat → Option Nat} (hx : x + 19 ≤ 273 ∨ 273 < x) (T : ST h x) : ST (h.sq f) x := ST_of (h := h) (h' := h.sq f) (fun _ _ => rfl) (fun o ho => mr_sqo (by omega)) T
theorem GO_sq {h : Mm} {u d b c : Nat} {f : Nat → Option Nat} (G : GO h u d b c) : GO (h.sq f) u d b c := by
  unfold GO at G ⊢
  rw [mr_sqo n200]
  exact G
theorem sb_si {h : Mm} {a b k : Nat} {v : Int32} {R : Nat → Nat → Int32} (hab : a < b ∨ b + 19 ≤ a) : (h.si a k v).sb b R = (h.sb b R).si a k v := by
  show (h.1, h.2.1, (fun z => if b ≤ z ∧ z < b + 19 then R (z - b) else zu2 h.mi a k v z), h.ml, h.mr) = (h.1, h.2.1, zu2 (fun z => if b ≤ z ∧ z < b + 19 then R (z - b) else h.mi z) a k v, h.ml, h.mr)
  have e : (fun z => if b ≤ z ∧ z < b + 19 then R (z - b) else zu2 h.mi a k v z) = zu2 (fun z => if b ≤ z ∧ z < b + 19 then R (z - b) else h.mi z) a k v := by
    funext z
    by_cases c : z = a
    · subst c
      have n : ¬ (b ≤ z ∧ z < b + 19) := by omega
      unfold zu2
      rw [if_neg n, if_pos rfl, if_pos rfl]
      show zu (h.mi z) k v = zu (if b ≤ z ∧ z < b + 19 then R (z - b) else h.mi z) k v
      rw [if_neg n]
    · unfold zu2
      rw [if_neg c, if_neg c]
  rw [e]
theorem m_253c {u d b c n m : Nat} (hm : m ≤ 80) (hn : n ≤ 80) {h : Mm} (G : GO h u d b c) (Tb : ST h b) (h7 : h.mi (b + 7) 0 = Int32.ofNat n) (h13 : h.mi (b + 13) 0 = Int32.ofNat m) (h11 : h.mi 200 11 = Int32.ofNat 8) {hb : Nat → Nat} (hf : ∀ j, j < 8 → h.mr 273 j = some (hb j) ∧ ST h (hb j)) (hbx : b + 19 ≤ hb 0 ∨ hb 0 + 19 ≤ b) (hx2 : 200 < hb 0 ∧ (hb 0 + 19 ≤ 273 ∨ 273 < hb 0)) (hb2 : 200 < b ∧ (b + 19 ≤ 273 ∨ 273 < b)) : dM PG 253 [.ref 200] h = some (.inl none, ((h.sq (roF (h.mr 273))).sb (hb 0) (cpR n m (rowsAt h b) (rowsAt h (hb 0)))).si 200 11 8) := by
  rw [dM_of (Nat.le_of_ble_eq_true rfl)]
  have z : ¬ (8 : Int32) < 8 := by decide
  have q8 : Int32.ofNat 8 = 8 := rfl
  have k0 := st_k (hf 0 (by decide)).2
  have s1 : (7 : Int32) + 1 = 8 := by decide
  have g1 := m_309 G (hb := hb) (fun j hj => ⟨(hf j hj).1, st_k (hf j hj).2⟩)
  have r7 : roF (h.mr 273) 7 = some (hb 0) := (hf 0 (by decide)).1
  have e : ∀ a, 200 < a → ((h.sq (roF (h.mr 273))).si 200 11 7).mi a = h.mi a := fun a ha => mi_sa (by omega)
  have T0 : ST ((h.sq (roF (h.mr 273))).si 200 11 7) (hb 0) := ST_sq hx2.2 (hf 0 (by decide)).2
  have T1 : ST ((h.sq (roF (h.mr 273))).si 200 11 7) b := ST_sq hb2.2 Tb
  have ra : ∀ x, 200 < x → rowsAt ((h.sq (roF (h.mr 273))).si 200 11 7) x = rowsAt h x := fun x hx => by
    funext o
    exact e (x + o) (by omega)
  have g2 := m_249 hm hn hbx T1 T0 (Q := rowsAt ((h.sq (roF (h.mr 273))).si 200 11 7) (hb 0)) (by rw [e _ (by omega), h7]) (by rw [e _ (by omega), h13])
  rw [sb_id, ra b hb2.1, ra (hb 0) hx2.1] at g2
  have w : ∀ Q, (((h.sq (roF (h.mr 273))).si 200 11 7).sb (hb 0) Q).mi 200 11 = 7 := fun Q => by
    rw [mi_sbo (by omega)]; exact mi_ss
  have w2 : ∀ Q v, (((h.sq (roF (h.mr 273))).si 200 11 7).sb (hb 0) Q).si 200 11 v = ((h.sq (roF (h.mr 273))).sb (hb 0) Q).si 200 11 v := fun Q v => by
    rw [sb_si (by omega), si_si]
  have p7 : (((h.sq (roF (h.mr 273))).si 200 11 7).mi 200 11) = 7 := mi_ss
  simp -implicitDefEqProofs only [D_253_0, k_253_0, D_253_13, k_253_13, D_253_45, k_253_45, R_253, v_aload_n, g_getfield, sv_i, rf_s, g_bipush, g_icmp_lt, v_callV1, aft_v, aft_n, sv_a, v_aaload, inA_0, inA_1, g_astore_n, g_astore_nN, g_ifnonnull, g_ifnonnullN, g_new, g_dup_i, g_dup_r, v_callI1, v_aastore, wrA_0, sv_o, v_callV2, g_iconst, g_iadd, g_put_i, g_return, entL, getL, setL, kL_i, kL_r, isI_s, isR_s, isJ_s, gV_s, iV_i, cs0, cs1, cs2, cs3, cs4, dn_nil, kd_si, kd_sl, kd_sw, mr_si, mr_sl, mr_sw, ml_si, ml_sw, mi_sl, go_k G, go_r0 G, go_r5 G, go_r6 G, go_r7 G, go_r8 G, go_r10 G, go_r12 G, go_r13 G, go_r14 G, go_k201 G, go_k273 G, go_k274 G, go_k276 G, h11, ↓if_neg z, if_neg z, q8, g1, k0, kd_sq, mr_sqo n200, mr_sq, p7, ic_7, ix_7, r7, g2, kd_sb, mr_sb, w, w2, s1]
/-- a new state in the history -/
def nwS (h : Mm) : Mm := cnS (h.nw (some (.inl 5)) 14) h.sz
theorem nwS_ST {h : Mm} : ST (nwS h) h.sz := cnS_ST rfl zu_same
theorem nwS_sz {h : Mm} : (nwS h).sz = h.sz + 19 := rfl
theorem nwS_fr {h : Mm} : Fr h.sz h (nwS h) := by
  intro a ha
  obtain ⟨f1, f2, f3, f4⟩ := cnS_fr (h := h.nw (some (.inl 5)) 14) (x := h.sz) rfl a ha
  refine ⟨f1.trans ?_, f2.trans ?_, f3.trans ?_, f4.trans ?_⟩
  · rw [kd_nw', zu_o (by omega)]
  · rw [mi_nw, zu_o (by omega)]
  · rw [ml_nw, zu_o (by omega)]
  · rw [mr_nw, zu_o (by omega)]
theorem nwS_0 {h : Mm} {o : Nat} (ho : o < 19) : (nwS h).mi (h.sz + o) = fun _ => 0 := cnS_0 rfl zu_same ho
theorem m_133n {h : Mm} : dM PG 133 [.ref h.sz] (h.nw (some (.inl 5)) 14) = some (.inl none, nwS h) := m_133 (Nat.lt_add_one _) zu_same
theorem m_253b {u d b c n m k : Nat} (hk8 : k < 8) (hm : m ≤ 80) (hn : n ≤ 80) {h : Mm} (hbz : b + 19 ≤ h.sz) (hz : 291 ≤ h.sz) (hb2 : b + 19 ≤ 273 ∨ 273 < b) (G : GO h u d b c) (Tb : ST h b) (h7 : h.mi (b + 7) 0 = Int32.ofNat n) (h13 : h.mi (b + 13) 0 = Int32.ofNat m) (h11 : h.mi 200 11 = Int32.ofNat k) (hx : h.mr 273 k = none) : dM PG 253 [.ref 200] h = some (.inl none, (((nwS h).sq (zu (h.mr 273) k (some h.sz))).sb h.sz (cpR n m (rowsAt h b) (fun o => (nwS h).mi (h.sz + o)))).si 200 11 (Int32.ofNat (k + 1))) := by
  rw [dM_of (Nat.le_of_ble_eq_true rfl)]
  have z : Int32.ofNat k < 8 := by
    show Int32.ofNat k < Int32.ofNat 8
    rw [i32_lt (by omega) (by omega)]; exact hk8
  have b_1 : inb (Int32.ofNat (k)) 8 = true := inb_nat (by omega) (by decide)
  have n_1 : (Int32.ofNat (k)).toNatClampNeg = k := i32_nat (by omega)
  have s1 : Int32.ofNat (k) + 1 = Int32.ofNat (k + 1) := i32_add (b := 1)
  obtain ⟨a1, a2, a3, a4⟩ := nwS_fr (h := h) 200 (by omega)
  obtain ⟨c1, c2, c3, c4⟩ := nwS_fr (h := h) 273 (by omega)
  have kx : (nwS h).kd h.sz = some (.inl 5) := st_k nwS_ST
  have Tx : ST ((nwS h).sq (zu (h.mr 273) k (some h.sz))) h.sz := ST_sq (by omega) nwS_ST
  have fo : ∀ o, o < 19 → (nwS h).kd (b + o) = h.kd (b + o) ∧ (nwS h).mi (b + o) = h.mi (b + o) ∧ (nwS h).mr (b + o) = h.mr (b + o) := fun o ho => by
    obtain ⟨q1, q2, q3, q4⟩ := nwS_fr (h := h) (b + o) (by omega)
    exact ⟨q1, q2, q4⟩
  have Tb' : ST ((nwS h).sq (zu (h.mr 273) k (some h.sz))) b := ST_sq hb2 (ST_of (h := h) (fun o ho => (fo o ho).1) (fun o ho => (fo o ho).2.2) Tb)
  have g := m_249 hm hn (Or.inl hbz) Tb' Tx (Q := rowsAt ((nwS h).sq (zu (h.mr 273) k (some h.sz))) h.sz) (by rw [mi_sq, (fo 7 (by decide)).2.1, h7]) (by rw [mi_sq, (fo 13 (by decide)).2.1, h13])
  rw [sb_id] at g
  have e1 : cpR n m (rowsAt ((nwS h).sq (zu (h.mr 273) k (some h.sz))) b) (rowsAt ((nwS h).sq (zu (h.mr 273) k (some h.sz))) h.sz) = cpR n m (rowsAt h b) (fun o => (nwS h).mi (h.sz + o)) := by
    funext o
    unfold cpR
    by_cases ho : o < 19
    · have q1 : rowsAt ((nwS h).sq (zu (h.mr 273) k (some h.sz))) b o = rowsAt h b o := by
        unfold rowsAt
        rw [mi_sq, (fo o ho).2.1]
      have q2 : rowsAt ((nwS h).sq (zu (h.mr 273) k (some h.sz))) h.sz o = (nwS h).mi (h.sz + o) := by
        unfold rowsAt
        rw [mi_sq]
      rw [q1, q2]
    · have zl : lims n m o = 0 := by
        unfold lims
        split <;> first | omega | rfl
      rw [zl]
      have q2 : rowsAt ((nwS h).sq (zu (h.mr 273) k (some h.sz))) h.sz o = (nwS h).mi (h.sz + o) := by
        unfold rowsAt
        rw [mi_sq]
      rw [q2]
      funext j
      unfold upto
      rw [if_neg (by omega), if_neg (by omega)]
  rw [e1] at g
  have w : ∀ Q, (((nwS h).sq (zu (h.mr 273) k (some h.sz))).sb h.sz Q).mi 200 = h.mi 200 := fun Q => by
    rw [mi_sbo (by omega), mi_sq, a2]
  simp -implicitDefEqProofs only [D_253_0, k_253_0, D_253_13, k_253_13, D_253_45, k_253_45, R_253, v_aload_n, g_getfield, sv_i, rf_s, g_bipush, g_icmp_lt, v_callV1, aft_v, aft_n, sv_a, v_aaload, inA_0, inA_1, g_astore_n, g_astore_nN, g_ifnonnull, g_ifnonnullN, g_new, g_dup_i, g_dup_r, v_callI1, v_aastore, wrA_0, sv_o, v_callV2, g_iconst, g_iadd, g_put_i, g_return, entL, getL, setL, kL_i, kL_r, isI_s, isR_s, isJ_s, gV_s, iV_i, cs0, cs1, cs2, cs3, cs4, dn_nil, kd_si, kd_sl, kd_sw, mr_si, mr_sl, mr_sw, ml_si, ml_sw, mi_sl, go_k G, go_r0 G, go_r5 G, go_r6 G, go_r7 G, go_r8 G, go_r10 G, go_r12 G, go_r13 G, go_r14 G, go_k201 G, go_k273 G, go_k274 G, go_k276 G, h11, ↓if_pos z, if_pos z, b_1, n_1, hx, rf_n, v_aload_nN, isN_s, m_133n, kx, a1, a2, a4, c1, c4, sr_sq, kd_sq, mr_sqo n200, mi_sq, g, kd_sb, mr_sb, w, s1]
