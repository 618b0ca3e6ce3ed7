-- ===== constructors: setup, grader, model =====
theorem Fr.tr {x : Nat} {h h1 h2 : Mm} (A : Fr x h h1) (B : Fr x h1 h2) : Fr x h h2 := fun a ha => by
  obtain ⟨a1, a2, a3, a4⟩ := A a ha
  obtain ⟨b1, b2, b3, b4⟩ := B a ha
  exact ⟨b1.trans a1, b2.trans a2, b3.trans a3, b4.trans a4⟩
theorem Fr.cnK {x y : Nat} {h h' : Mm} (F : Fr x h h') (hy : x ≤ y) : Fr x h (cnK h' y) := ((F.sr hy).si hy).si hy
def cnU (h : Mm) (x : Nat) : Mm := (cnK (((cnK (((cnK (((cnK ((((((((((((((((h).si x 0 1).si x 1 0).si x 2 0).si x 3 0).si x 4 0).si x 5 0).si x 6 0).si x 7 0).si x 8 0).nw (some (.inr (.int, 4))) 4).sr x 9 (some (h.sz))).nw (some (.inr (.int, 4))) 4).sr x 10 (some (h.sz + 1))).si x 11 0).nw (some (.inl 2)) 3) (h.sz + 2)).sr x 12 (some (h.sz + 2))).nw (some (.inl 2)) 3) (h.sz + 3)).sr x 13 (some (h.sz + 3))).nw (some (.inl 2)) 3) (h.sz + 4)).sr x 14 (some (h.sz + 4))).nw (some (.inl 2)) 3) (h.sz + 5)).sr x 15 (some (h.sz + 5))
theorem R_132 : PG.2.1 132 = none := rfl
theorem m_132 {h : Mm} {x : Nat} (hx : x < h.sz) (hk : h.kd x = some (.inl 4)) : dM PG 132 [.ref x] h = some (.inl none, cnU h x) := by
  rw [dM_of (Nat.le_of_ble_eq_true rfl)]
  have e1 : ∀ (q0 : Kd), zu (h.kd) (h.sz) q0 x = some (.inl 4) := fun q0 => by rw [zu_o (by omega), hk]
  have e2 : ∀ (q0 q1 : Kd), zu (zu (h.kd) (h.sz) q0) (h.sz + 1) q1 x = some (.inl 4) := fun q0 q1 => by rw [zu_o (by omega), e1]
  have e3 : ∀ (q0 q1 q2 : Kd), zu (zu (zu (h.kd) (h.sz) q0) (h.sz + 1) q1) (h.sz + 1 + 1) q2 x = some (.inl 4) := fun q0 q1 q2 => by rw [zu_o (by omega), e2]
  have e4 : ∀ (q0 q1 q2 q3 : Kd), zu (zu (zu (zu (h.kd) (h.sz) q0) (h.sz + 1) q1) (h.sz + 1 + 1) q2) (h.sz + 1 + 1 + 1) q3 x = some (.inl 4) := fun q0 q1 q2 q3 => by rw [zu_o (by omega), e3]
  have e5 : ∀ (q0 q1 q2 q3 q4 : Kd), zu (zu (zu (zu (zu (h.kd) (h.sz) q0) (h.sz + 1) q1) (h.sz + 1 + 1) q2) (h.sz + 1 + 1 + 1) q3) (h.sz + 1 + 1 + 1 + 1) q4 x = some (.inl 4) := fun q0 q1 q2 q3 q4 => by rw [zu_o (by omega), e4]
  have e6 : ∀ (q0 q1 q2 q3 q4 q5 : Kd), zu (zu (zu (zu (zu (zu (h.kd) (h.sz) q0) (h.sz + 1) q1) (h.sz + 1 + 1) q2) (h.sz + 1 + 1 + 1) q3) (h.sz + 1 + 1 + 1 + 1) q4) (h.sz + 1 + 1 + 1 + 1 + 1) q5 x = some (.inl 4) := fun q0 q1 q2 q3 q4 q5 => by rw [zu_o (by omega), e5]
  simp -implicitDefEqProofs only [D_132_0, k_132_0, R_132, v_aload_n, g_obj, g_iconst, g_put_i, g_put_a, g_new, g_dup_i, g_dup_r, v_callI1, aft_v, aft_n, g_put_o, g_return, entL, getL, setL, kL_i, kL_r, isI_s, isR_s, isJ_s, gV_s, iV_i, cs0, cs1, cs2, cs3, cs4, dn_nil, kd_si, kd_sl, kd_sw, mr_si, mr_sl, mr_sw, ml_si, ml_sw, mi_sl, nA_80, nA_320, nA_10, nA_4, nA_12, nA_1500, nA_26, nA_1168, nA_9344, nA_300, nA_16, nA_1, nO_8, sz_nw, sz_si, sz_sr, kd_nw', kd_sr, hk, e1, e2, e3, e4, e5, e6, sz_cnK, kd_cnK, m_230, zu_same]
  rfl
theorem ec_132 {h : Mm} {x : Nat} (hs : h.sz = x + 1) (hk : h.kd x = some (.inl 4)) : ∃ h', dM PG 132 [.ref x] h = some (.inl none, h') ∧ h'.sz = x + 7 ∧ Fr x h h' ∧ SU h' x ∧ h'.nc = h.nc + 6 ∧ h'.ns = h.ns + 20 := by
  refine ⟨cnU h x, m_132 (by omega) hk, ?_, ?_, ?_, ?_, ?_⟩
  · show h.sz + 1 + 1 + 1 + 1 + 1 + 1 = x + 7
    omega
  · have hy : x ≤ x := Nat.le_refl x
    have e0 : x ≤ h.sz := by omega
    have e1 : x ≤ h.sz + 1 := by omega
    have e2 : x ≤ h.sz + 2 := by omega
    have e3 : x ≤ h.sz + 3 := by omega
    have e4 : x ≤ h.sz + 4 := by omega
    have e5 : x ≤ h.sz + 5 := by omega
    exact (((((((((((((((((((((((((((Fr.rf (h := h) (x := x)).si hy).si hy).si hy).si hy).si hy).si hy).si hy).si hy).si hy).nw e0).sr hy).nw e1).sr hy).si hy).nw e2).cnK e2).sr hy).nw e3).cnK e3).sr hy).nw e4).cnK e4).sr hy).nw e5).cnK e5).sr hy)
  · unfold SU
    refine ⟨?_, ?_, ?_, ?_, ?_, ?_, ?_, ?_, ?_, ?_, ?_, ?_, ?_⟩ <;>
      simp [cnU, cnK, kd_sr, kd_si, kd_nw', mr_sr, mr_si, mr_nw, sz_nw, sz_si, sz_sr, zu_k, zu2, zu, it_ap, Nat.add_assoc, hs, hk]
  · show h.nc + 1 + 1 + 1 + 1 + 1 + 1 = h.nc + 6
    omega
  · show h.ns + 4 + 4 + 3 + 3 + 3 + 3 = h.ns + 20
    omega
theorem ec_133 {h : Mm} {x : Nat} (hs : h.sz = x + 1) (hk : h.kd x = some (.inl 5)) : ∃ h', dM PG 133 [.ref x] h = some (.inl none, h') ∧ h'.sz = x + 19 ∧ Fr x h h' ∧ ST h' x ∧ h'.nc = h.nc + 18 ∧ h'.ns = h.ns + 1092 := by
  refine ⟨cnS h x, m_133 (by omega) hk, sz_n18 hs, cnS_fr hs, cnS_ST hs hk, ?_, ?_⟩
  · show h.nc + 1 + 1 + 1 + 1 + 1 + 1 + 1 + 1 + 1 + 1 + 1 + 1 + 1 + 1 + 1 + 1 + 1 + 1 = h.nc + 18
    omega
  · show h.ns + 10 + 4 + 4 + 4 + 4 + 12 + 7 + 80 + 80 + 80 + 80 + 320 + 7 + 80 + 80 + 80 + 80 + 80 = h.ns + 1092
    omega
def Fy (x : Nat) (h h' : Mm) : Prop := ∀ a, a < x → a ≠ 200 → h'.kd a = h.kd a ∧ h'.mi a = h.mi a ∧ h'.ml a = h.ml a ∧ h'.mr a = h.mr a
theorem Fy.tr {x y : Nat} {h h1 h2 : Mm} (A : Fy x h h1) (B : Fy y h1 h2) (hx : x ≤ y) : Fy x h h2 := fun a ha h2 => by
  obtain ⟨a1, a2, a3, a4⟩ := A a ha h2
  obtain ⟨b1, b2, b3, b4⟩ := B a (by omega) h2
  exact ⟨b1.trans a1, b2.trans a2, b3.trans a3, b4.trans a4⟩
theorem Fy.of {x : Nat} {h h' : Mm} (A : Fr x h h') : Fy x h h' := fun a ha _ => A a ha
theorem Fy.sr {x k : Nat} {h h' : Mm} {v : Option Nat} (A : Fy x h h') : Fy x h (h'.sr 200 k v) := fun a ha h2 => by
  obtain ⟨a1, a2, a3, a4⟩ := A a ha h2
  exact ⟨a1, a2, a3, (z2_o (R := h'.mr) h2).trans a4⟩
theorem Fy.si {x k : Nat} {h h' : Mm} {v : Int32} (A : Fy x h h') : Fy x h (h'.si 200 k v) := fun a ha h2 => by
  obtain ⟨a1, a2, a3, a4⟩ := A a ha h2
  exact ⟨a1, (mi_sa h2).trans a2, a3, a4⟩
theorem Fr.n1 {x n : Nat} {h : Mm} {k : Kd} (hs : h.sz = x) : Fr x h (h.nw k n) := Fr.rf.nw (Nat.le_of_eq hs.symm)
theorem su_fy {u : Nat} {h h' : Mm} (F : Fy (u + 7) h h') (hu : 200 < u) (S : SU h u) : SU h' u := SU_of (h := h) (fun o ho => (F _ (by omega) (by omega)).1) (F _ (by omega) (by omega)).2.2.2 S
theorem st_fy {b : Nat} {h h' : Mm} (F : Fy (b + 19) h h') (hu : 200 < b) (S : ST h b) : ST h' b := ST_of (h := h) (fun o ho => (F _ (by omega) (by omega)).1) (fun o ho => (F _ (by omega) (by omega)).2.2.2) S
theorem kd_n0 {h : Mm} {k : Kd} {n x : Nat} (hs : h.sz = x) : (h.nw k n).kd x = k := by
  rw [kd_nw', hs, zu_same]
theorem R_1 : PG.2.1 1 = none := rfl
theorem m_1 {h : Mm} (hs : h.sz = 201) (hk : h.kd 200 = some (.inl 7)) (hr : h.mr 200 = fun _ => none) (hi : h.mi 200 = fun _ => 0) : ∃ h', dM PG 1 [.ref 200] h = some (.inl none, h') ∧ h'.sz = 277 ∧ Fr 200 h h' ∧ GO h' 202 209 216 235 ∧ (SU h' 202 ∧ SU h' 209 ∧ ST h' 216 ∧ ST h' 235 ∧ ST h' 254) ∧ (h'.mi 200 1 = 0 ∧ h'.mi 200 2 = 0 ∧ h'.mi 200 3 = -1 ∧ h'.mi 200 4 = 0 ∧ h'.mi 200 9 = 0 ∧ h'.mi 200 11 = 0) ∧ (∀ j, h'.mr 273 j = none) ∧ SBx h' 274 275 16 0 (fun _ => 0) ∧ h'.nc ≤ h.nc + 100 ∧ h'.ns ≤ h.ns + 6000 := by
  have e1 : ∀ q : Kd, zu h.kd 201 q 200 = some (.inl 7) := fun q => by rw [zu_o (by decide), hk]
  obtain ⟨A, hA⟩ : ∃ A, A = (((((h.nw (some (.inr (.byte, 1500))) 1500).sr 200 0 (some 201)).si 200 1 0).si 200 2 0).si 200 3 (-1)).si 200 4 0 := ⟨_, rfl⟩
  have sA : A.sz = 202 := by rw [hA]; show h.sz + 1 = 202; omega
  have kA : A.kd 200 = some (.inl 7) := by rw [hA]; show zu h.kd h.sz _ 200 = _; rw [hs]; exact e1 _
  have nA : A.nc = h.nc + 1 := by rw [hA]; rfl
  have tA : A.ns = h.ns + 1500 := by rw [hA]; rfl
  have n0 : (h.nw (some (.inr (.byte, 1500))) 1500).mi 200 = fun _ => 0 := by rw [mi_nw, hs, zu_o (by decide), hi]
  have n1 : (h.nw (some (.inr (.byte, 1500))) 1500).mr 200 = fun _ => none := by rw [mr_nw, hs, zu_o (by decide), hr]
  have iA : A.mi 200 = zu (zu (zu (zu (fun _ => 0) 1 0) 2 0) 3 (-1)) 4 0 := by
    rw [hA]
    funext j
    show zu2 (zu2 (zu2 (zu2 (h.nw (some (.inr (.byte, 1500))) 1500).mi 200 1 0) 200 2 0) 200 3 (-1)) 200 4 0 200 j = _
    unfold zu2
    rw [if_pos rfl, if_pos rfl, if_pos rfl, if_pos rfl, n0]
  have rA : A.mr 200 = zu (fun _ => none) 0 (some 201) := by
    rw [hA]
    show zu2 (h.nw (some (.inr (.byte, 1500))) 1500).mr 200 0 (some 201) 200 = _
    unfold zu2
    rw [if_pos rfl, n1]
  have k21 : A.kd 201 = some (.inr (.byte, 1500)) := by rw [hA]; exact kd_n0 (n := 1500) hs
  have fA : Fy 201 h A := by
    rw [hA]
    exact ((((Fy.of (Fr.n1 hs)).sr).si).si).si.si
  obtain ⟨B1, gB, sB1, fB1, SB1, nB1, tB1⟩ := ec_132 (h := A.nw (some (.inl 4)) 16) (x := 202) (by show A.sz + 1 = 202 + 1; rw [sA]) (kd_n0 sA)
  have qB := (Fr.n1 sA).tr fB1
  have wB := qB 200 (by decide)
  obtain ⟨B, hB⟩ : ∃ B, B = B1.sr 200 5 (some 202) := ⟨_, rfl⟩
  have sB : B.sz = 209 := by rw [hB]; exact sB1
  have kB1 : B1.kd 200 = some (.inl 7) := wB.1.trans kA
  have kB : B.kd 200 = some (.inl 7) := by rw [hB]; exact kB1
  have nB : B.nc = A.nc + 7 := by rw [hB]; show B1.nc = _; rw [nB1]; show A.nc + 1 + _ = _; omega
  have tB : B.ns = A.ns + 36 := by rw [hB]; show B1.ns = _; rw [tB1]; show A.ns + _ + _ = _; omega
  have fB : Fy 202 A B := by rw [hB]; exact (Fy.of qB).sr
  have rB : B.mr 200 = zu (zu (fun _ => none) 0 (some 201)) 5 (some 202) := by
    rw [hB]
    show zu2 B1.mr 200 5 (some 202) 200 = _
    unfold zu2
    rw [if_pos rfl, wB.2.2.2, rA]
  have iB : B.mi 200 = zu (zu (zu (zu (fun _ => 0) 1 0) 2 0) 3 (-1)) 4 0 := by
    rw [hB]
    show B1.mi 200 = _
    rw [wB.2.1, iA]
  have SB : SU B 202 := by rw [hB]; exact su_fy (h := B1) ((Fy.of (Fr.rf)).sr) (by decide) SB1
  obtain ⟨C1, gC, sC1, fC1, SC1, nC1, tC1⟩ := ec_132 (h := B.nw (some (.inl 4)) 16) (x := 209) (by show B.sz + 1 = 209 + 1; rw [sB]) (kd_n0 sB)
  have qC := (Fr.n1 sB).tr fC1
  have wC := qC 200 (by decide)
  obtain ⟨C, hC⟩ : ∃ C, C = C1.sr 200 6 (some 209) := ⟨_, rfl⟩
  have sC : C.sz = 216 := by rw [hC]; exact sC1
  have kC1 : C1.kd 200 = some (.inl 7) := wC.1.trans kB
  have kC : C.kd 200 = some (.inl 7) := by rw [hC]; exact kC1
  have nC : C.nc = B.nc + 7 := by rw [hC]; show C1.nc = _; rw [nC1]; show B.nc + 1 + _ = _; omega
  have tC : C.ns = B.ns + 36 := by rw [hC]; show C1.ns = _; rw [tC1]; show B.ns + _ + _ = _; omega
  have fC : Fy 209 B C := by rw [hC]; exact (Fy.of qC).sr
  have rC : C.mr 200 = zu (zu (zu (fun _ => none) 0 (some 201)) 5 (some 202)) 6 (some 209) := by
    rw [hC]
    show zu2 C1.mr 200 6 (some 209) 200 = _
    unfold zu2
    rw [if_pos rfl, wC.2.2.2, rB]
  have iC : C.mi 200 = zu (zu (zu (zu (fun _ => 0) 1 0) 2 0) 3 (-1)) 4 0 := by
    rw [hC]
    show C1.mi 200 = _
    rw [wC.2.1, iB]
  have SC : SU C 209 := by rw [hC]; exact su_fy (h := C1) ((Fy.of (Fr.rf)).sr) (by decide) SC1
  obtain ⟨D1, gD, sD1, fD1, SD1, nD1, tD1⟩ := ec_133 (h := C.nw (some (.inl 5)) 14) (x := 216) (by show C.sz + 1 = 216 + 1; rw [sC]) (kd_n0 sC)
  have qD := (Fr.n1 sC).tr fD1
  have wD := qD 200 (by decide)
  obtain ⟨D, hD⟩ : ∃ D, D = D1.sr 200 7 (some 216) := ⟨_, rfl⟩
  have sD : D.sz = 235 := by rw [hD]; exact sD1
  have kD1 : D1.kd 200 = some (.inl 7) := wD.1.trans kC
  have kD : D.kd 200 = some (.inl 7) := by rw [hD]; exact kD1
  have nD : D.nc = C.nc + 19 := by rw [hD]; show D1.nc = _; rw [nD1]; show C.nc + 1 + _ = _; omega
  have tD : D.ns = C.ns + 1106 := by rw [hD]; show D1.ns = _; rw [tD1]; show C.ns + _ + _ = _; omega
  have fD : Fy 216 C D := by rw [hD]; exact (Fy.of qD).sr
  have rD : D.mr 200 = zu (zu (zu (zu (fun _ => none) 0 (some 201)) 5 (some 202)) 6 (some 209)) 7 (some 216) := by
    rw [hD]
    show zu2 D1.mr 200 7 (some 216) 200 = _
    unfold zu2
    rw [if_pos rfl, wD.2.2.2, rC]
  have iD : D.mi 200 = zu (zu (zu (zu (fun _ => 0) 1 0) 2 0) 3 (-1)) 4 0 := by
    rw [hD]
    show D1.mi 200 = _
    rw [wD.2.1, iC]
  have SD : ST D 216 := by rw [hD]; exact st_fy (h := D1) ((Fy.of (Fr.rf)).sr) (by decide) SD1
  obtain ⟨E1, gE, sE1, fE1, SE1, nE1, tE1⟩ := ec_133 (h := D.nw (some (.inl 5)) 14) (x := 235) (by show D.sz + 1 = 235 + 1; rw [sD]) (kd_n0 sD)
  have qE := (Fr.n1 sD).tr fE1
  have wE := qE 200 (by decide)
  obtain ⟨E, hE⟩ : ∃ E, E = (E1.sr 200 8 (some 235)).si 200 9 0 := ⟨_, rfl⟩
  have sE : E.sz = 254 := by rw [hE]; exact sE1
  have kE1 : E1.kd 200 = some (.inl 7) := wE.1.trans kD
  have kE : E.kd 200 = some (.inl 7) := by rw [hE]; exact kE1
  have nE : E.nc = D.nc + 19 := by rw [hE]; show E1.nc = _; rw [nE1]; show D.nc + 1 + _ = _; omega
  have tE : E.ns = D.ns + 1106 := by rw [hE]; show E1.ns = _; rw [tE1]; show D.ns + _ + _ = _; omega
  have fE : Fy 235 D E := by rw [hE]; exact ((Fy.of qE).sr).si
  have rE : E.mr 200 = zu (zu (zu (zu (zu (fun _ => none) 0 (some 201)) 5 (some 202)) 6 (some 209)) 7 (some 216)) 8 (some 235) := by
    rw [hE]
    show zu2 E1.mr 200 8 (some 235) 200 = _
    unfold zu2
    rw [if_pos rfl, wE.2.2.2, rD]
  have iE : E.mi 200 = zu (zu (zu (zu (zu (fun _ => 0) 1 0) 2 0) 3 (-1)) 4 0) 9 0 := by
    rw [hE]
    show zu2 (E1.mi) 200 9 0 200 = _
    unfold zu2
    rw [if_pos rfl, wE.2.1, iD]
  have SE : ST E 235 := by rw [hE]; exact st_fy (h := E1) (((Fy.of (Fr.rf)).sr).si) (by decide) SE1
  obtain ⟨F1, gF, sF1, fF1, SF1, nF1, tF1⟩ := ec_133 (h := E.nw (some (.inl 5)) 14) (x := 254) (by show E.sz + 1 = 254 + 1; rw [sE]) (kd_n0 sE)
  have qF := (Fr.n1 sE).tr fF1
  have wF := qF 200 (by decide)
  obtain ⟨F, hF⟩ : ∃ F, F = (F1.sr 200 10 (some 254)).si 200 11 0 := ⟨_, rfl⟩
  have sF : F.sz = 273 := by rw [hF]; exact sF1
  have kF1 : F1.kd 200 = some (.inl 7) := wF.1.trans kE
  have kF : F.kd 200 = some (.inl 7) := by rw [hF]; exact kF1
  have nF : F.nc = E.nc + 19 := by rw [hF]; show F1.nc = _; rw [nF1]; show E.nc + 1 + _ = _; omega
  have tF : F.ns = E.ns + 1106 := by rw [hF]; show F1.ns = _; rw [tF1]; show E.ns + _ + _ = _; omega
  have fF : Fy 254 E F := by rw [hF]; exact ((Fy.of qF).sr).si
  have rF : F.mr 200 = zu (zu (zu (zu (zu (zu (fun _ => none) 0 (some 201)) 5 (some 202)) 6 (some 209)) 7 (some 216)) 8 (some 235)) 10 (some 254) := by
    rw [hF]
    show zu2 F1.mr 200 10 (some 254) 200 = _
    unfold zu2
    rw [if_pos rfl, wF.2.2.2, rE]
  have iF : F.mi 200 = zu (zu (zu (zu (zu (zu (fun _ => 0) 1 0) 2 0) 3 (-1)) 4 0) 9 0) 11 0 := by
    rw [hF]
    show zu2 (F1.mi) 200 11 0 200 = _
    unfold zu2
    rw [if_pos rfl, wF.2.1, iE]
  have SF : ST F 254 := by rw [hF]; exact st_fy (h := F1) (((Fy.of (Fr.rf)).sr).si) (by decide) SF1
  obtain ⟨G, hG⟩ : ∃ G, G = (F.nw (some (.inr (.object "FishGrader$State", 8))) 8).sr 200 12 (some 273) := ⟨_, rfl⟩
  have qG : Fr 273 F (F.nw (some (.inr (.object "FishGrader$State", 8))) 8) := Fr.n1 sF
  have wG := qG 200 (by decide)
  have sG : G.sz = 274 := by rw [hG]; show F.sz + 1 = 274; rw [sF]
  have uG : zu F.kd 273 (some (.inr (.object "FishGrader$State", 8))) 200 = some (.inl 7) := by rw [zu_o (by decide), kF]
  have kG : G.kd 200 = some (.inl 7) := by rw [hG]; exact wG.1.trans kF
  have nG : G.nc = F.nc + 1 := by rw [hG]; rfl
  have tG : G.ns = F.ns + 8 := by rw [hG]; rfl
  have fG : Fy 273 F G := by rw [hG]; exact (Fy.of qG).sr
  have rG : G.mr 200 = zu (zu (zu (zu (zu (zu (zu (fun _ => none) 0 (some 201)) 5 (some 202)) 6 (some 209)) 7 (some 216)) 8 (some 235)) 10 (some 254)) 12 (some 273) := by
    rw [hG]
    show zu2 (F.nw (some (.inr (.object "FishGrader$State", 8))) 8).mr 200 12 (some 273) 200 = _
    unfold zu2
    rw [if_pos rfl, wG.2.2.2, rF]
  have iG : G.mi 200 = zu (zu (zu (zu (zu (zu (fun _ => 0) 1 0) 2 0) 3 (-1)) 4 0) 9 0) 11 0 := by
    rw [hG]
    show (F.nw (some (.inr (.object "FishGrader$State", 8))) 8).mi 200 = _
    rw [wG.2.1, iF]
  have zG : G.kd 273 = some (.inr (.object "FishGrader$State", 8)) := by rw [hG]; exact kd_n0 (n := 8) sF
  have y3 : ∀ j, G.mr 273 j = none := fun j => by
    rw [hG]
    show zu2 (F.nw (some (.inr (.object "FishGrader$State", 8))) 8).mr 200 12 (some 273) 273 j = none
    rw [z2_o (R := (F.nw (some (.inr (.object "FishGrader$State", 8))) 8).mr) (by decide), mr_nw, sF, zu_same]
  have gH := m_134 (h := G.nw (some (.inl 10)) 4) (x := 274) (by rw [sz_nw, sG]; decide) (kd_n0 sG)
  obtain ⟨H1, hH1⟩ : ∃ H1, H1 = sbN (G.nw (some (.inl 10)) 4) 274 := ⟨_, rfl⟩
  rw [← hH1] at gH
  have zz : (G.nw (some (.inl 10)) 4).sz = 275 := by rw [sz_nw, sG]
  have qH : Fr 274 G H1 := by
    rw [hH1]
    exact (((Fr.n1 sG).nw (by rw [zz]; decide)).sr (Nat.le_refl 274)).si (Nat.le_refl 274)
  have wH := qH 200 (by decide)
  obtain ⟨H, hH⟩ : ∃ H, H = H1.sr 200 13 (some 274) := ⟨_, rfl⟩
  have sH : H.sz = 276 := by
    rw [hH, hH1]
    show (G.nw (some (.inl 10)) 4).sz + 1 = 276
    rw [zz]
  have kH1 : H1.kd 200 = some (.inl 7) := wH.1.trans kG
  have kH : H.kd 200 = some (.inl 7) := by rw [hH]; exact kH1
  have nH : H.nc = G.nc + 2 := by rw [hH, hH1]; rfl
  have tH : H.ns = G.ns + 20 := by rw [hH, hH1]; show G.ns + 4 + 16 = G.ns + 20; omega
  have fH : Fy 274 G H := by rw [hH]; exact (Fy.of qH).sr
  have rH : H.mr 200 = zu (zu (zu (zu (zu (zu (zu (zu (fun _ => none) 0 (some 201)) 5 (some 202)) 6 (some 209)) 7 (some 216)) 8 (some 235)) 10 (some 254)) 12 (some 273)) 13 (some 274) := by
    rw [hH]
    show zu2 H1.mr 200 13 (some 274) 200 = _
    unfold zu2
    rw [if_pos rfl, wH.2.2.2, rG]
  have iH : H.mi 200 = zu (zu (zu (zu (zu (zu (fun _ => 0) 1 0) 2 0) 3 (-1)) 4 0) 9 0) 11 0 := by
    rw [hH]
    show H1.mi 200 = _
    rw [wH.2.1, iG]
  have b1 : H.kd 274 = some (.inl 10) := by
    rw [hH, hH1]
    show zu (zu G.kd G.sz (some (.inl 10))) (G.nw (some (.inl 10)) 4).sz _ 274 = _
    rw [zz, zu_o (by decide), sG, zu_same]
  have b2 : H.mr 274 0 = some 275 := by
    rw [hH, hH1]
    show zu2 (zu2 ((G.nw (some (.inl 10)) 4).nw (some (.inr (.byte, 16))) 16).mr 274 0 (some (G.nw (some (.inl 10)) 4).sz)) 200 13 (some 274) 274 0 = some 275
    rw [z2_o (R := zu2 ((G.nw (some (.inl 10)) 4).nw (some (.inr (.byte, 16))) 16).mr 274 0 (some (G.nw (some (.inl 10)) 4).sz)) (by decide), z2_s, zz]
  have b3 : H.kd 275 = some (.inr (.byte, 16)) := by
    rw [hH, hH1]
    show zu (zu G.kd G.sz (some (.inl 10))) (G.nw (some (.inl 10)) 4).sz (some (.inr (.byte, 16))) 275 = _
    rw [zz, zu_same]
  have b4 : ∀ j, H.mi 274 j = 0 := fun j => by
    rw [hH, hH1]
    show zu2 ((G.nw (some (.inl 10)) 4).nw (some (.inr (.byte, 16))) 16).mi 274 1 0 274 j = 0
    rw [zu2_k, if_pos rfl]
    split
    · rfl
    · rw [mi_nw, zz, zu_o (by decide), mi_nw, sG, zu_same]
  obtain ⟨I, hI⟩ : ∃ I, I = (H.nw (some (.inr (.int, 12))) 12).sr 200 14 (some 276) := ⟨_, rfl⟩
  have qI : Fr 276 H (H.nw (some (.inr (.int, 12))) 12) := Fr.n1 sH
  have wI := qI 200 (by decide)
  have sI : I.sz = 277 := by rw [hI]; show H.sz + 1 = 277; rw [sH]
  have uI : zu H.kd 276 (some (.inr (.int, 12))) 200 = some (.inl 7) := by rw [zu_o (by decide), kH]
  have kI : I.kd 200 = some (.inl 7) := by rw [hI]; exact wI.1.trans kH
  have nI : I.nc = H.nc + 1 := by rw [hI]; rfl
  have tI : I.ns = H.ns + 12 := by rw [hI]; rfl
  have fI : Fy 276 H I := by rw [hI]; exact (Fy.of qI).sr
  have rI : I.mr 200 = zu (zu (zu (zu (zu (zu (zu (zu (zu (fun _ => none) 0 (some 201)) 5 (some 202)) 6 (some 209)) 7 (some 216)) 8 (some 235)) 10 (some 254)) 12 (some 273)) 13 (some 274)) 14 (some 276) := by
    rw [hI]
    show zu2 (H.nw (some (.inr (.int, 12))) 12).mr 200 14 (some 276) 200 = _
    unfold zu2
    rw [if_pos rfl, wI.2.2.2, rH]
  have iI : I.mi 200 = zu (zu (zu (zu (zu (zu (fun _ => 0) 1 0) 2 0) 3 (-1)) 4 0) 9 0) 11 0 := by
    rw [hI]
    show (H.nw (some (.inr (.int, 12))) 12).mi 200 = _
    rw [wI.2.1, iH]
  have zI : I.kd 276 = some (.inr (.int, 12)) := by rw [hI]; exact kd_n0 (n := 12) sH
  have aI : Fy 201 h I := ((((((((fA.tr fB (by decide)).tr fC (by decide)).tr fD (by decide)).tr fE (by decide)).tr fF (by decide)).tr fG (by decide)).tr fH (by decide)).tr fI (by decide))
  have gI : Fy 276 H I := fI
  have hI' : Fy 274 G I := fH.tr fI (by decide)
  have oF : Fy 273 F I := fG.tr hI' (by decide)
  have oE : Fy 254 E I := fF.tr oF (by decide)
  have oD : Fy 235 D I := fE.tr oE (by decide)
  have oC : Fy 216 C I := fD.tr oD (by decide)
  have oB : Fy 209 B I := fC.tr oC (by decide)
  have oA : Fy 202 A I := fB.tr oB (by decide)
  refine ⟨I, ?_, sI, fun a ha => aI a (by omega) (by omega), ⟨kI, ?_, ?_, ?_, ?_, ?_, ?_, ?_, ?_, ?_, (oA 201 (by decide) (by decide)).1.trans k21, (hI' 273 (by decide) (by decide)).1.trans zG, (gI 274 (by decide) (by decide)).1.trans b1, zI⟩, ⟨su_fy oB (by decide) SB, su_fy oC (by decide) SC, st_fy oD (by decide) SD, st_fy oE (by decide) SE, st_fy oF (by decide) SF⟩, ⟨?_, ?_, ?_, ?_, ?_, ?_⟩, fun j => ?_, ⟨(gI 274 (by decide) (by decide)).1.trans b1, ?_, (gI 275 (by decide) (by decide)).1.trans b3, ?_, ?_, Nat.zero_le _, by decide, by decide, by rw [sI]; decide, by rw [sI]; decide, fun k hk => absurd hk (Nat.not_lt_zero k)⟩, by omega, by omega⟩
  · rw [dM_of (Nat.le_of_ble_eq_true rfl)]
    simp -implicitDefEqProofs only [D_1_0, k_1_0, R_1, v_aload_n, g_obj, g_sipush, g_put_a, g_iconst, g_put_i, g_put_z, g_new, g_dup_i, g_dup_r, v_callI1, aft_v, aft_n, g_put_o, g_bipush, g_return, entL, getL, setL, kL_i, kL_r, isI_s, isR_s, isJ_s, gV_s, iV_i, cs0, cs1, cs2, cs3, cs4, dn_nil, kd_si, kd_sl, kd_sw, mr_si, mr_sl, mr_sw, ml_si, ml_sw, mi_sl, nA_80, nA_320, nA_10, nA_4, nA_12, nA_1500, nA_26, nA_1168, nA_9344, nA_300, nA_16, nA_1, nO_8, sz_nw, sz_si, sz_sr, kd_nw', kd_sr, hk, hs, e1, eq_self, true_or, hA.symm, sA, kA, gB, sB, kB1, kB, hB.symm, gC, sC, kC1, kC, hC.symm, gD, sD, kD1, kD, hD.symm, gE, sE, kE1, kE, hE.symm, gF, sF, kF1, kF, hF.symm, sG, kG, uG, hG.symm, gH, sH, kH1, kH, hH.symm, sI, kI, uI, hI.symm]
  all_goals first | (rw [rI]; rfl) | (rw [iI]; rfl) | skip
  · rw [(hI' 273 (by decide) (by decide)).2.2.2]
    exact y3 j
  · rw [(gI 274 (by decide) (by decide)).2.2.2]
    exact b2
  · rw [(gI 274 (by decide) (by decide)).2.1]
    exact b4 1
  · rw [(gI 274 (by decide) (by decide)).2.1]
    exact b4 3
def cnM (h : Mm) : Mm := ((((((((((((((((((((((((h.nw (some (.inr (.int, 1500))) 1500).sr 277 1 (some 278)).si 277 6 (-1)).nw (some (.inr (.int, 26))) 26).sr 277 11 (some 279)).nw (some (.inr (.int, 26))) 26).sr 277 12 (some 280)).nw (some (.inr (.long, 4))) 4).sr 277 13 (some 281)).nw (some (.inr (.long, 4))) 4).sr 277 14 (some 282)).nw (some (.inr (.int, 1168))) 1168).sr 277 15 (some 283)).nw (some (.inr (.int, 1168))) 1168).sr 277 16 (some 284)).nw (some (.inr (.int, 1168))) 1168).sr 277 17 (some 285)).nw (some (.inr (.int, 9344))) 9344).sr 277 18 (some 286)).nw (some (.inr (.int, 1168))) 1168).sr 277 19 (some 287)).nw (some (.inr (.int, 12))) 12).sr 277 24 (some 288)).nw (some (.inr (.int, 300))) 300).sr 277 25 (some 289)
theorem R_2 : PG.2.1 2 = none := rfl
theorem m_2 {h : Mm} (hs : h.sz = 278) (hk : h.kd 277 = some (.inl 8)) : dM PG 2 [.ref 277] h = some (.inl none, cnM h) := by
  have a278 : (278 : Nat) + 1 = 279 := rfl
  have z278 : ∀ (f : Nat → Kd) (q : Kd), zu f 278 q 277 = f 277 := fun f q => zu_o (by decide)
  have a279 : (279 : Nat) + 1 = 280 := rfl
  have z279 : ∀ (f : Nat → Kd) (q : Kd), zu f 279 q 277 = f 277 := fun f q => zu_o (by decide)
  have a280 : (280 : Nat) + 1 = 281 := rfl
  have z280 : ∀ (f : Nat → Kd) (q : Kd), zu f 280 q 277 = f 277 := fun f q => zu_o (by decide)
  have a281 : (281 : Nat) + 1 = 282 := rfl
  have z281 : ∀ (f : Nat → Kd) (q : Kd), zu f 281 q 277 = f 277 := fun f q => zu_o (by decide)
  have a282 : (282 : Nat) + 1 = 283 := rfl
  have z282 : ∀ (f : Nat → Kd) (q : Kd), zu f 282 q 277 = f 277 := fun f q => zu_o (by decide)
  have a283 : (283 : Nat) + 1 = 284 := rfl
  have z283 : ∀ (f : Nat → Kd) (q : Kd), zu f 283 q 277 = f 277 := fun f q => zu_o (by decide)
  have a284 : (284 : Nat) + 1 = 285 := rfl
  have z284 : ∀ (f : Nat → Kd) (q : Kd), zu f 284 q 277 = f 277 := fun f q => zu_o (by decide)
  have a285 : (285 : Nat) + 1 = 286 := rfl
  have z285 : ∀ (f : Nat → Kd) (q : Kd), zu f 285 q 277 = f 277 := fun f q => zu_o (by decide)
  have a286 : (286 : Nat) + 1 = 287 := rfl
  have z286 : ∀ (f : Nat → Kd) (q : Kd), zu f 286 q 277 = f 277 := fun f q => zu_o (by decide)
  have a287 : (287 : Nat) + 1 = 288 := rfl
  have z287 : ∀ (f : Nat → Kd) (q : Kd), zu f 287 q 277 = f 277 := fun f q => zu_o (by decide)
  have a288 : (288 : Nat) + 1 = 289 := rfl
  have z288 : ∀ (f : Nat → Kd) (q : Kd), zu f 288 q 277 = f 277 := fun f q => zu_o (by decide)
  have a289 : (289 : Nat) + 1 = 290 := rfl
  have z289 : ∀ (f : Nat → Kd) (q : Kd), zu f 289 q 277 = f 277 := fun f q => zu_o (by decide)
  rw [dM_of (Nat.le_of_ble_eq_true rfl)]
  simp -implicitDefEqProofs only [D_2_0, k_2_0, R_2, v_aload_n, g_obj, g_sipush, g_put_a, g_iconst, g_put_i, g_bipush, g_return, entL, getL, setL, kL_i, kL_r, isI_s, isR_s, isJ_s, gV_s, iV_i, cs0, cs1, cs2, cs3, cs4, dn_nil, kd_si, kd_sl, kd_sw, mr_si, mr_sl, mr_sw, ml_si, ml_sw, mi_sl, nA_80, nA_320, nA_10, nA_4, nA_12, nA_1500, nA_26, nA_1168, nA_9344, nA_300, nA_16, nA_1, nO_8, sz_nw, sz_si, sz_sr, kd_nw', kd_sr, hk, hs, a278, z278, a279, z279, a280, z280, a281, z281, a282, z282, a283, z283, a284, z284, a285, z285, a286, z286, a287, z287, a288, z288, a289, z289]
  rfl
theorem sz_cnM {h : Mm} (hs : h.sz = 278) : (cnM h).sz = 290 := by
  show h.sz + 1 + 1 + 1 + 1 + 1 + 1 + 1 + 1 + 1 + 1 + 1 + 1 = 290
  omega
theorem cnM_fr {h : Mm} (hs : h.sz = 278) : Fr 277 h (cnM h) := by
  have hy : 277 ≤ 277 := Nat.le_refl 277
  have e0 : 277 ≤ h.sz := by omega
  have e1 : 277 ≤ h.sz + 1 := by omega
  have e2 : 277 ≤ h.sz + 2 := by omega
  have e3 : 277 ≤ h.sz + 3 := by omega
  have e4 : 277 ≤ h.sz + 4 := by omega
  have e5 : 277 ≤ h.sz + 5 := by omega
  have e6 : 277 ≤ h.sz + 6 := by omega
  have e7 : 277 ≤ h.sz + 7 := by omega
  have e8 : 277 ≤ h.sz + 8 := by omega
  have e9 : 277 ≤ h.sz + 9 := by omega
  have e10 : 277 ≤ h.sz + 10 := by omega
  have e11 : 277 ≤ h.sz + 11 := by omega
  exact ((((((((((((((((((((((((((Fr.rf (h := h) (x := 277)).nw e0).sr hy).si hy).nw e1).sr hy).nw e2).sr hy).nw e3).sr hy).nw e4).sr hy).nw e5).sr hy).nw e6).sr hy).nw e7).sr hy).nw e8).sr hy).nw e9).sr hy).nw e10).sr hy).nw e11).sr hy)
theorem cnM_MO {h : Mm} (hs : h.sz = 278) (hk : h.kd 277 = some (.inl 8)) : MO (cnM h) := by
  unfold MO
  refine ⟨?_, ?_, ?_, ?_, ?_, ?_, ?_, ?_, ?_, ?_, ?_, ?_, ?_, ?_, ?_, ?_, ?_, ?_, ?_, ?_, ?_, ?_, ?_, ?_, ?_⟩ <;>
    simp [cnM, kd_sr, kd_si, kd_nw', mr_sr, mr_si, mr_nw, sz_nw, sz_si, sz_sr, zu_k, zu2, zu, it_ap, hs, hk]
theorem cnM_0 {h : Mm} (hs : h.sz = 278) (hi : h.mi 277 = fun _ => 0) : ((cnM h).mi 277 = zu (fun _ => 0) 6 (-1)) ∧ ((cnM h).mi 283 = fun _ => 0) ∧ ((cnM h).mi 279 = fun _ => 0) := by
  refine ⟨?_, ?_, ?_⟩ <;> funext j <;>
    simp [cnM, mi_sr, mi_si, mi_nw, sz_nw, sz_si, sz_sr, zu_k, zu2, zu, it_ap, hs, hi]
theorem cnM_n {h : Mm} : (cnM h).nc = h.nc + 12 ∧ (cnM h).ns = h.ns + 15888 := by
  refine ⟨?_, ?_⟩
  · show h.nc + 1 + 1 + 1 + 1 + 1 + 1 + 1 + 1 + 1 + 1 + 1 + 1 = h.nc + 12
    omega
  · show h.ns + 1500 + 26 + 26 + 4 + 4 + 1168 + 1168 + 1168 + 9344 + 1168 + 12 + 300 = h.ns + 15888
    omega
-- ===== the law's beginning =====
theorem law_0 {h : Mm} {sc : Nat} (hs : h.sz = 200) (hn : h.nc = 0) (ht : h.ns = 0) : ∃ Z, dB PG 0 0 [some (.ref sc)] [] h = dB PG 0 23 (LL sc 0 []) [] Z ∧ INV h 0 Z := by
  obtain ⟨N, hN⟩ : ∃ N, N = h.nw (some (.inl 7)) 15 := ⟨_, rfl⟩
  have sN : N.sz = 201 := by rw [hN]; show h.sz + 1 = 201; omega
  have nN : N.nc = 1 := by rw [hN]; show h.nc + 1 = 1; omega
  have tN : N.ns = 15 := by rw [hN]; show h.ns + 15 = 15; omega
  obtain ⟨P, g1, sP, fP, GP, ⟨U1, U2, T1, T2, T3⟩, ⟨i1, i2, i3, i4, i9, i11⟩, y3, SB, nP, tP⟩ := m_1 sN (by rw [hN]; exact kd_n0 hs) (by rw [hN, mr_nw, hs, zu_same]) (by rw [hN, mi_nw, hs, zu_same])
  obtain ⟨Q, hQ⟩ : ∃ Q, Q = P.nw (some (.inl 8)) 27 := ⟨_, rfl⟩
  have sQ : Q.sz = 278 := by rw [hQ]; show P.sz + 1 = 278; omega
  have kQ : Q.kd 277 = some (.inl 8) := by rw [hQ]; exact kd_n0 sP
  have g2 := m_2 sQ kQ
  have M1 := cnM_MO sQ kQ
  obtain ⟨c1, c2, c3⟩ := cnM_0 sQ (by rw [hQ, mi_nw, sP, zu_same])
  have F1 : Fr 277 P (cnM Q) := by
    have := cnM_fr sQ
    rw [hQ] at this ⊢
    exact (Fr.n1 sP).tr this
  obtain ⟨Y, hY⟩ : ∃ Y, Y = cnM Q := ⟨_, rfl⟩
  have sY : Y.sz = 290 := by rw [hY]; exact sz_cnM sQ
  have nY : Y.nc = Q.nc + 12 := by rw [hY]; exact cnM_n.1
  have tY : Y.ns = Q.ns + 15888 := by rw [hY]; exact cnM_n.2
  have nQ : Q.nc = P.nc + 1 := by rw [hQ]; rfl
  have tQ : Q.ns = P.ns + 27 := by rw [hQ]; rfl
  rw [← hY] at g2 M1 c1 c2 c3 F1
  obtain ⟨Z, hZ⟩ : ∃ Z, Z = Y.nw (some (.inr (.long, 1))) 1 := ⟨_, rfl⟩
  have sZ : Z.sz = 291 := by rw [hZ]; show Y.sz + 1 = 291; omega
  have nZ : Z.nc = Y.nc + 1 := by rw [hZ]; rfl
  have tZ : Z.ns = Y.ns + 1 := by rw [hZ]; rfl
  have F2 : Fr 290 Y Z := by rw [hZ]; exact Fr.n1 sY
  have F3 : Fr 277 P Z := F1.tr (fun a ha => F2 a (by omega))
  have F4 : Fy 277 P Z := Fy.of F3
  have F0 : Fr 200 h Z := by
    have f1 : Fr 200 h N := by rw [hN]; exact Fr.n1 hs
    exact (f1.tr fP).tr (fun a ha => F3 a (by omega))
  have k9 : Z.kd 290 = some (.inr (.long, 1)) := by rw [hZ]; exact kd_n0 sY
  have MZ : MO Z := MO_of (fun a x y => ⟨(F2 a (by omega)).1, (F2 a (by omega)).2.2.2⟩) M1
  have m7 : Z.mi 277 = zu (fun _ => 0) 6 (-1) := (F2 277 (by decide)).2.1.trans c1
  have m3 : Z.mi 283 = fun _ => 0 := (F2 283 (by decide)).2.1.trans c2
  have m9 : Z.mi 279 = fun _ => 0 := (F2 279 (by decide)).2.1.trans c3
  have w2 := F3 200 (by decide)
  refine ⟨Z, ?_, ?_⟩
  · rw [D_0_0]
    unfold LL
    simp -implicitDefEqProofs only [k_0_0, g_new, g_dup_i, g_dup_r, v_callI1, aft_v, aft_n, g_astore_n, g_astore_nN, g_iconst, g_istore, entL, getL, setL, kL_i, kL_r, isI_s, isR_s, isJ_s, gV_s, iV_i, cs0, cs1, cs2, cs3, cs4, dn_nil, kd_si, kd_sl, kd_sw, mr_si, mr_sl, mr_sw, ml_si, ml_sw, mi_sl, nA_80, nA_320, nA_10, nA_4, nA_12, nA_1500, nA_26, nA_1168, nA_9344, nA_300, nA_16, nA_1, nO_8, hN.symm, hs, g1, sP, hQ.symm, g2, sY, hZ.symm]
    rfl
  · refine ⟨((0, fun _ => 0), (0, -1), (false, false, 0), ((0, 0, 0), (fun _ => 0), (fun _ => (0, fun _ => 0))), (0, 0, fun _ => 0), (0, 0, fun _ => 0), (fun _ => (0, 0, fun _ => 0)), (0, fun _ => 0)), 202, 209, 216, 235, 275, 16, ?_, ?_, ?_, fun a ha => ⟨(F0 a ha).1, (F0 a ha).2.1, (F0 a ha).2.2.2⟩, ⟨by omega, by omega⟩, k9⟩
    · refine ⟨Nat.zero_le _, Nat.zero_le _, fun _ => ⟨rfl, rfl⟩, Nat.zero_le _, Nat.zero_le _, fun j hj => absurd hj (Nat.not_lt_zero j), Nat.zero_le _, fun z => (by cases (show false = true from z)), fun z => (by cases (show false = true from z)), fun j hj => absurd hj (Nat.not_lt_zero j)⟩
    · refine ⟨⟨?_, Or.inl ⟨rfl, rfl⟩, su_fy (fun a ha h2 => F4 a (by omega) h2) (by decide) U1, su_fy (fun a ha h2 => F4 a (by omega) h2) (by decide) U2, st_fy (fun a ha h2 => F4 a (by omega) h2) (by decide) T1, st_fy (fun a ha h2 => F4 a (by omega) h2) (by decide) T2, st_fy (fun a ha h2 => F4 a (by omega) h2) (by decide) T3⟩, ⟨⟨Or.inl ⟨by decide, by decide⟩, by rw [sZ]; decide⟩, ⟨Or.inl ⟨by decide, by decide⟩, by rw [sZ]; decide⟩, by decide, by decide, by decide, by rw [sZ]; decide⟩, ⟨fun j x hj e => ?_, fun j j' x hj hj' e e' => ?_⟩, ⟨?_, fun j hj => absurd hj (Nat.not_lt_zero j), ?_, ?_, ?_, ?_, ?_, Nat.zero_le _⟩, fun z => (by cases (show false = true from z)), fun z => (by cases (show false = true from z)), fun j hj => absurd hj (Nat.not_lt_zero j), ?_, Or.inl rfl, Nat.le_refl _⟩
      · obtain ⟨g1, g2, g3, g4, g5, g6, g7, g8, g9, g10, g11, g12, g13, g14⟩ := GP
        exact ⟨w2.1.trans g1, by rw [w2.2.2.2]; exact g2, by rw [w2.2.2.2]; exact g3, by rw [w2.2.2.2]; exact g4, by rw [w2.2.2.2]; exact g5, by rw [w2.2.2.2]; exact g6, by rw [w2.2.2.2]; exact g7, by rw [w2.2.2.2]; exact g8, by rw [w2.2.2.2]; exact g9, by rw [w2.2.2.2]; exact g10, (F3 201 (by decide)).1.trans g11, (F3 273 (by decide)).1.trans g12, (F3 274 (by decide)).1.trans g13, (F3 276 (by decide)).1.trans g14⟩
      · rw [(F3 273 (by decide)).2.2.2, y3 j] at e
        cases e
      · rw [(F3 273 (by decide)).2.2.2, y3 j] at e
        cases e
      · rw [w2.2.1]; exact i1
      · rw [w2.2.1]; exact i2
      · rw [w2.2.1]; exact i3
      · rw [w2.2.1]; exact i4
      · rw [w2.2.1]; exact i9
      · rw [w2.2.1]; exact i11
      · obtain ⟨s1, s2, s3, s4, s5, s6, s7, s8, s9, s10, s11⟩ := SB
        exact ⟨(F3 274 (by decide)).1.trans s1, by rw [(F3 274 (by decide)).2.2.2]; exact s2, (F3 275 (by decide)).1.trans s3, by rw [(F3 274 (by decide)).2.1]; exact s4, by rw [(F3 274 (by decide)).2.1]; exact s5, s6, s7, s8, by rw [sZ]; decide, by rw [sZ]; decide, fun k hk => absurd hk (Nat.not_lt_zero k)⟩
    · refine ⟨MZ, ⟨by rw [m7]; rfl, fun j hj => absurd hj (Nat.not_lt_zero j), by rw [m7]; rfl, by rw [m7]; rfl, by rw [m7]; rfl, by rw [m7]; rfl, by rw [m7]; rfl, by rw [m7]; rfl⟩, fun z => (by cases (show false = true from z)), fun z => (by cases (show false = true from z)), fun j hj => absurd hj (Nat.not_lt_zero j), ⟨rfl, fun j hj => absurd hj (Nat.not_lt_zero j)⟩, fun _ => ⟨fun a => by rw [m3], fun a => by rw [m9]⟩⟩
