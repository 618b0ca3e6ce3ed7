-- ===== the class remembers =====
def rmH (X : WX) (j : Nat) : Sz1 := if X.nu = 8 then (if j < 7 then X.hi (j + 1) else X.cu) else if j = X.nu then X.cu else X.hi j
def WX.rm (X : WX) : WX := X.ch X.sv (min X.nu 7 + 1) X.cu X.sd (rmH X)
def RmO (X : WX) (u d b c v cap : Nat) (h h1 : Mm) : Prop := dM PG 253 [.ref 200] h = some (.inl none, h1) ∧ CW h h1 ∧ CIw X.rm u d b c v cap h1 ∧ (∀ o, o < 19 → h1.mi (b + o) = h.mi (b + o)) ∧ ∀ o, o < 7 → h1.mi (u + o) = h.mi (u + o)
theorem nwS_nc {h : Mm} : (nwS h).nc = h.nc + 1 + 1 + 1 + 1 + 1 + 1 + 1 + 1 + 1 + 1 + 1 + 1 + 1 + 1 + 1 + 1 + 1 + 1 + 1 := rfl
theorem nwS_ns {h : Mm} : (nwS h).ns = h.ns + 14 + 10 + 4 + 4 + 4 + 4 + 12 + 7 + 80 + 80 + 80 + 80 + 320 + 7 + 80 + 80 + 80 + 80 + 80 := rfl
theorem nw_all {h : Mm} : ∃ w, Fr h.sz h w ∧ ST w h.sz ∧ w.sz = h.sz + 19 ∧ w.nc ≤ h.nc + 600 ∧ w.ns ≤ h.ns + 3000 ∧ nwS h = w := by
  refine ⟨nwS h, nwS_fr, nwS_ST, nwS_sz, ?_, ?_, rfl⟩
  · rw [nwS_nc]
    omega
  · rw [nwS_ns]
    omega
section RM6
variable {X : WX} {u d b c v cap : Nat} {h : Mm}
theorem rs_13 {s : Sz1} {R : Nat → Nat → Int32} (Z : RSx X R s) : ∃ n, n ≤ 80 ∧ s.1 ≤ 80 ∧ R 13 0 = Int32.ofNat n ∧ R 7 0 = Int32.ofNat s.1 := by
  obtain ⟨i, pc, n, q, E, V, J⟩ := Z
  have := V.1.2
  exact ⟨n, by omega, by omega, V.1.1.2.2.2.2.1, V.1.1.2.2.1⟩
theorem rs_cp {s : Sz1} {R Q R' : Nat → Nat → Int32} {n : Nat} (Z : RSx X R s) (h13 : R 13 0 = Int32.ofNat n) (hn : n ≤ 80) (e : ∀ o, o < 19 → R' o = cpR s.1 n R Q o) : RSx X R' s := by
  refine RSx_of e ?_
  exact RS_of Z (fun o j hj => by
    rw [h13, cN_of (by omega)] at hj
    exact cp_at hj) (fun _ _ => rfl)
theorem rem_a {x : Nat} (A : CIw X u d b c v cap h) (M : MO h) (k9 : h.kd 290 = some (.inr (.long, 1))) (hl : X.ld = true) (hk : X.nu < 8) (hx : h.mr 273 X.nu = some x) : ∃ h1, RmO X u d b c v cap h h1 := by
  have A0 := A
  obtain ⟨⟨G, ud, Uu, Ud, Sb, Sc, Ss⟩, ⟨Bb, Bc, n1, n2, n3, hz⟩, ⟨H1, H2⟩, ⟨f1, f2, f3, f4, f5, f6, f7, f8⟩, L, V, Hj, ⟨TX, v1, v2⟩⟩ := A
  obtain ⟨l1, l2, l3⟩ := L hl
  obtain ⟨n, hn, hm, e13, e7⟩ := rs_13 l2
  obtain ⟨Sx, Bx, x1, x2, x3⟩ := H1 X.nu x (by omega) hx
  have db := st_dis Sb Sx (Ne.symm x1)
  have g := m_253a (n := X.cu.1) (m := n) (k := X.nu) (x := x) hk hn hm db (by have := Bx.1; omega) G Sb Sx e7 e13 f7 hx
  have o20 : (200 : Nat) < x ∨ x + 19 ≤ 200 := by
    have := Bx.1
    omega
  have blk : ∀ y, ST h y → BK h y → y ≠ x → ∀ o, o < 19 → ((h.sb x (cpR X.cu.1 n (rowsAt h b) (rowsAt h x))).si 200 11 (Int32.ofNat (X.nu + 1))).mi (y + o) = h.mi (y + o) := fun y Sy By ny o ho => by
    have := st_dis Sy Sx ny
    have z := By.1
    exact (mi_sa (by omega)).trans (mi_sbo (by omega))
  have B4 : BK h 254 := ⟨Or.inl ⟨by decide, by decide⟩, by omega⟩
  refine ⟨_, g, CW.tr (CW.sb Bx.1) CW.si (Nat.le_add_right _ _) (Nat.le_add_right _ _), ?_, fun o ho => blk b Sb Bb (Ne.symm x1) o ho, fun o ho => ?_⟩
  · refine CIw_ch A0 M k9 (fun y => y = x) (fun y e => by subst e; exact ⟨Sx, Bx⟩) (fun e => x2 e.symm) (Nat.le_refl _) (fun a ha => ⟨rfl, fun _ _ => rfl⟩) (fun j _ => rfl) (fun a ha a2 ho => (mi_sa a2).trans (mi_sbo (ho x rfl))) (fun j j9 j11 => ?_) G.2.2.2.2.1 Sb Bb n1 n2 ⟨H1, H2⟩ ?_ ?_ (by omega) (fun _ => RSx_of (fun o ho => blk b Sb Bb (Ne.symm x1) o ho) l2) (fun hs => RSx_of (fun o ho => blk 254 Ss B4 (Ne.symm x3) o ho) (V hs)) (fun j hj => ?_)
    · rw [mi_sk (by omega), mi_sbo o20]
    · rw [mi_sk (by decide), mi_sbo o20]
      exact f6
    · rw [mi_ss, show min X.nu 7 + 1 = X.nu + 1 by omega]
    · unfold rmH
      rw [if_neg (by omega)]
      by_cases e : j = X.nu
      · rw [if_pos e]
        refine ⟨x, by rw [e]; exact hx, rs_cp l2 e13 hn (Q := rowsAt h x) (fun o ho => ?_)⟩
        have z := Bx.1
        exact (mi_sa (by omega)).trans (mi_sb ho)
      · rw [if_neg e]
        obtain ⟨y, y1, y2⟩ := Hj j (by omega)
        obtain ⟨Sy, By, -⟩ := H1 j y (by omega) y1
        refine ⟨y, y1, RSx_of (fun o ho => blk y Sy By (fun z => e ?_) o ho) y2⟩
        exact H2 j X.nu x (by omega) (by omega) (by rw [← z]; exact y1) hx
  · have z := Bx.1
    exact (mi_sa (by omega)).trans (mi_sbo (by omega))
theorem rem_b (A : CIw X u d b c v cap h) (M : MO h) (k9 : h.kd 290 = some (.inr (.long, 1))) (hl : X.ld = true) (hk : X.nu < 8) (hx : h.mr 273 X.nu = none) : ∃ h1, RmO X u d b c v cap h h1 := by
  have A0 := A
  obtain ⟨⟨G, ud, Uu, Ud, Sb, Sc, Ss⟩, ⟨Bb, Bc, n1, n2, n3, hz⟩, ⟨H1, H2⟩, ⟨f1, f2, f3, f4, f5, f6, f7, f8⟩, L, V, Hj, ⟨TX, v1, v2⟩⟩ := A
  obtain ⟨l1, l2, l3⟩ := L hl
  obtain ⟨n, hn, hm, e13, e7⟩ := rs_13 l2
  have g := m_253b (n := X.cu.1) (m := n) (k := X.nu) hk hn hm Bb.2 hz (by have := Bb.1; omega) G Sb e7 e13 f7 hx
  obtain ⟨w, F, wST, wsz, wnc, wns, wg⟩ := nw_all (h := h)
  rw [wg] at g
  obtain ⟨h1, hh⟩ : ∃ h1, h1 = ((w.sq (zu (h.mr 273) X.nu (some h.sz))).sb h.sz (cpR X.cu.1 n (rowsAt h b) (fun o => w.mi (h.sz + o)))).si 200 11 (Int32.ofNat (X.nu + 1)) := ⟨_, rfl⟩
  rw [← hh] at g
  have kd : ∀ a, a < h.sz → h1.kd a = h.kd a := fun a ha => by rw [hh]; exact (F a ha).1
  have mr : ∀ a, a < h.sz → a ≠ 273 → h1.mr a = h.mr a := fun a ha a2 => by
    rw [hh]
    exact (mr_sqo (h := w) a2).trans (F a ha).2.2.2
  have m73 : h1.mr 273 = zu (h.mr 273) X.nu (some h.sz) := by
    rw [hh]
    exact mr_sq (h := w)
  have mi : ∀ a, a < h.sz → a ≠ 200 → h1.mi a = h.mi a := fun a ha a2 => by
    rw [hh]
    exact (mi_sa a2).trans ((mi_sbo (Or.inl ha)).trans (F a ha).2.1)
  have m20 : ∀ j, j ≠ 11 → h1.mi 200 j = h.mi 200 j := fun j hj => by
    rw [hh, mi_sk hj, mi_sbo (by omega)]
    exact congrFun (F 200 (by omega)).2.1 j
  have ml : ∀ a, a < h.sz → h1.ml a = h.ml a := fun a ha => by
    rw [hh]
    exact (F a ha).2.2.1
  have sz : h1.sz = h.sz + 19 := by rw [hh]; exact wsz
  have Sz : ST h1 h.sz := by
    rw [hh]
    exact ST_sq (h := w) (by omega) wST
  have Bz : BK h1 h.sz := ⟨Or.inr hz, by omega⟩
  have rz : ∀ o, o < 19 → h1.mi (h.sz + o) = cpR X.cu.1 n (rowsAt h b) (fun o => w.mi (h.sz + o)) o := fun o ho => by
    rw [hh]
    exact (mi_sa (by omega)).trans (mi_sb ho)
  have sto : ∀ x, ST h x → BK h x → ST h1 x := fun x Sx Bx => ST_of (h := h) (fun o ho => kd _ (by have := Bx.2; omega)) (fun o ho => mr _ (by have := Bx.2; omega) (by have := Bx.1; omega)) Sx
  have bko : ∀ x, BK h x → BK h1 x := fun x Bx => ⟨Bx.1, by have := Bx.2; omega⟩
  have blk : ∀ y, BK h y → ∀ o, o < 19 → h1.mi (y + o) = h.mi (y + o) := fun y By o ho => mi _ (by have := By.2; omega) (by have := By.1; omega)
  have B4 : BK h 254 := ⟨Or.inl ⟨by decide, by decide⟩, by omega⟩
  have cw : CW h h1 := ⟨fun a ha => ⟨kd a (by omega), mi a (by omega) (by omega), mr a (by omega) (by omega)⟩, fun a x y => ⟨kd a (by omega), mr a (by omega) (by omega), mi a (by omega) (by omega), ml a (by omega)⟩, by rw [hh]; show w.nc ≤ _; exact wnc, by rw [hh]; show w.ns ≤ _; exact wns⟩
  refine ⟨h1, g, cw, ?_, fun o ho => blk b Bb o ho, fun o ho => mi _ (by omega) (by omega)⟩
  have nb := Bb.2
  have nc := Bc.2
  refine CIw_ch A0 M k9 (fun _ => False) (fun y e => e.elim) (fun e => e) (by omega) (fun a ha => ⟨kd a ha, fun _ a2 => mr a ha a2⟩) (fun j _ => by rw [mr 200 (by omega) (by decide)]) (fun a ha a2 _ => mi a ha a2) (fun j j9 j11 => m20 j j11) (by rw [mr 200 (by omega) (by decide)]; exact G.2.2.2.2.1) (sto b Sb Bb) (bko b Bb) n1 n2 ⟨fun j x hj e => ?_, fun j j' x hj hj' e e' => ?_⟩ (by rw [m20 9 (by decide)]; exact f6) ?_ (by omega) (fun _ => RSx_of (fun o ho => blk b Bb o ho) l2) (fun hs => RSx_of (fun o ho => blk 254 B4 o ho) (V hs)) (fun j hj => ?_)
  · rw [m73] at e
    by_cases ej : j = X.nu
    · rw [ej, zu_same] at e
      cases e
      exact ⟨Sz, Bz, by omega, by omega, by omega⟩
    · rw [zu_o ej] at e
      obtain ⟨y1, y2, y3⟩ := H1 j x hj e
      exact ⟨sto x y1 y2, bko x y2, y3⟩
  · rw [m73] at e e'
    by_cases ej : j = X.nu
    · by_cases ej' : j' = X.nu
      · rw [ej, ej']
      · rw [ej, zu_same] at e
        rw [zu_o ej'] at e'
        cases e
        have := (H1 j' h.sz hj' e').2.1.2
        omega
    · rw [zu_o ej] at e
      by_cases ej' : j' = X.nu
      · rw [ej', zu_same] at e'
        cases e'
        have := (H1 j h.sz hj e).2.1.2
        omega
      · rw [zu_o ej'] at e'
        exact H2 j j' x hj hj' e e'
  · rw [hh, mi_ss, show min X.nu 7 + 1 = X.nu + 1 by omega]
  · unfold rmH
    rw [if_neg (by omega), m73]
    by_cases e : j = X.nu
    · rw [if_pos e, e, zu_same]
      exact ⟨h.sz, rfl, rs_cp l2 e13 hn rz⟩
    · rw [if_neg e, zu_o e]
      obtain ⟨y, y1, y2⟩ := Hj j (by omega)
      obtain ⟨Sy, By, -⟩ := H1 j y (by omega) y1
      exact ⟨y, y1, RSx_of (fun o ho => blk y By o ho) y2⟩
theorem rem_8 (A : CIw X u d b c v cap h) (M : MO h) (k9 : h.kd 290 = some (.inr (.long, 1))) (hl : X.ld = true) (hk : X.nu = 8) : ∃ h1, RmO X u d b c v cap h h1 := by
  have A0 := A
  obtain ⟨⟨G, ud, Uu, Ud, Sb, Sc, Ss⟩, ⟨Bb, Bc, n1, n2, n3, hz⟩, ⟨H1, H2⟩, ⟨f1, f2, f3, f4, f5, f6, f7, f8⟩, L, V, Hj, ⟨TX, v1, v2⟩⟩ := A
  obtain ⟨l1, l2, l3⟩ := L hl
  obtain ⟨n, hn, hm, e13, e7⟩ := rs_13 l2
  have ex : ∀ j, j < 8 → h.mr 273 j = some ((h.mr 273 j).getD 0) := fun j hj => by
    obtain ⟨y, y1, -⟩ := Hj j (by omega)
    rw [y1]
    rfl
  obtain ⟨x, hx⟩ : ∃ x, x = (h.mr 273 0).getD 0 := ⟨_, rfl⟩
  have ex0 : h.mr 273 0 = some x := by rw [hx]; exact ex 0 (by decide)
  obtain ⟨Sx, Bx, x1, x2, x3⟩ := H1 0 x (by decide) ex0
  have db := st_dis Sb Sx (Ne.symm x1)
  have g := m_253c (n := X.cu.1) (m := n) (hb := fun j => (h.mr 273 j).getD 0) hn hm G Sb e7 e13 (by rw [← hk]; exact f7) (fun j hj => ⟨ex j hj, (H1 j _ hj (ex j hj)).1⟩) (by show b + 19 ≤ (h.mr 273 0).getD 0 ∨ _; rw [← hx]; exact db) (by show 200 < (h.mr 273 0).getD 0 ∧ _; rw [← hx]; have := Bx.1; omega) (by have := Bb.1; omega)
  have g : dM PG 253 [.ref 200] h = some (.inl none, ((h.sq (roF (h.mr 273))).sb x (cpR X.cu.1 n (rowsAt h b) (rowsAt h x))).si 200 11 8) := by
    rw [hx]
    exact g
  obtain ⟨h1, hh⟩ : ∃ h1, h1 = ((h.sq (roF (h.mr 273))).sb x (cpR X.cu.1 n (rowsAt h b) (rowsAt h x))).si 200 11 8 := ⟨_, rfl⟩
  rw [← hh] at g
  have kd : ∀ a, h1.kd a = h.kd a := fun a => by rw [hh]; rfl
  have mr : ∀ a, a ≠ 273 → h1.mr a = h.mr a := fun a a2 => by
    rw [hh]
    exact mr_sqo a2
  have m73 : h1.mr 273 = roF (h.mr 273) := by
    rw [hh]
    exact mr_sq (h := h)
  have mi : ∀ a, a ≠ 200 → (a < x ∨ x + 19 ≤ a) → h1.mi a = h.mi a := fun a a2 ho => by
    rw [hh]
    exact (mi_sa a2).trans (mi_sbo ho)
  have m20 : ∀ j, j ≠ 11 → h1.mi 200 j = h.mi 200 j := fun j hj => by
    rw [hh, mi_sk hj, mi_sbo (by have := Bx.1; omega)]
    rfl
  have sz : h1.sz = h.sz := by rw [hh]; rfl
  have rz : ∀ o, o < 19 → h1.mi (x + o) = cpR X.cu.1 n (rowsAt h b) (rowsAt h x) o := fun o ho => by
    rw [hh]
    exact (mi_sa (by have := Bx.1; omega)).trans (mi_sb ho)
  have sto : ∀ y, ST h y → BK h y → ST h1 y := fun y Sy By => ST_of (h := h) (fun o ho => kd _) (fun o ho => mr _ (by have := By.1; omega)) Sy
  have bko : ∀ y, BK h y → BK h1 y := fun y By => ⟨By.1, by have := By.2; omega⟩
  have blk : ∀ y, ST h y → BK h y → y ≠ x → ∀ o, o < 19 → h1.mi (y + o) = h.mi (y + o) := fun y Sy By ny o ho => by
    have := st_dis Sy Sx ny
    have z := By.1
    exact mi _ (by omega) (by omega)
  have B4 : BK h 254 := ⟨Or.inl ⟨by decide, by decide⟩, by omega⟩
  have bx := Bx.1
  have cw : CW h h1 := ⟨fun a ha => ⟨kd a, mi a (by omega) (by omega), mr a (by omega)⟩, fun a x' y => ⟨kd a, mr a (by omega), mi a (by omega) (by omega), by rw [hh]; rfl⟩, by rw [hh]; exact Nat.le_add_right _ _, by rw [hh]; exact Nat.le_add_right _ _⟩
  have ro : ∀ j, j < 8 → ∃ i, i < 8 ∧ roF (h.mr 273) j = h.mr 273 i ∧ i = (if j < 7 then j + 1 else 0) := fun j hj => by
    refine ⟨if j < 7 then j + 1 else 0, by split <;> omega, ?_, rfl⟩
    unfold roF
    by_cases c : j < 7
    · rw [if_pos c, if_pos c]
    · rw [if_neg c, if_pos (by omega), if_neg c]
  refine ⟨h1, g, cw, ?_, fun o ho => blk b Sb Bb (Ne.symm x1) o ho, fun o ho => mi _ (by omega) (by omega)⟩
  refine CIw_ch A0 M k9 (fun y => y = x) (fun y e => by subst e; exact ⟨Sx, Bx⟩) (fun e => x2 e.symm) (by omega) (fun a ha => ⟨kd a, fun _ a2 => mr a a2⟩) (fun j _ => by rw [mr 200 (by decide)]) (fun a ha a2 ho => mi a a2 (ho x rfl)) (fun j j9 j11 => m20 j j11) (by rw [mr 200 (by decide)]; exact G.2.2.2.2.1) (sto b Sb Bb) (bko b Bb) n1 n2 ⟨fun j y hj e => ?_, fun j j' y hj hj' e e' => ?_⟩ (by rw [m20 9 (by decide)]; exact f6) ?_ (by omega) (fun _ => RSx_of (fun o ho => blk b Sb Bb (Ne.symm x1) o ho) l2) (fun hs => RSx_of (fun o ho => blk 254 Ss B4 (Ne.symm x3) o ho) (V hs)) (fun j hj => ?_)
  · obtain ⟨i, i8, e1, -⟩ := ro j hj
    rw [m73, e1] at e
    obtain ⟨y1, y2, y3⟩ := H1 i y i8 e
    exact ⟨sto y y1 y2, bko y y2, y3⟩
  · obtain ⟨i, i8, e1, i1⟩ := ro j hj
    obtain ⟨i', i8', e1', i1'⟩ := ro j' hj'
    rw [m73, e1] at e
    rw [m73, e1'] at e'
    have := H2 i i' y i8 i8' e e'
    rw [i1, i1'] at this
    by_cases c1 : j < 7
    · rw [if_pos c1] at this
      by_cases c2 : j' < 7
      · rw [if_pos c2] at this
        omega
      · rw [if_neg c2] at this
        omega
    · rw [if_neg c1] at this
      by_cases c2 : j' < 7
      · rw [if_pos c2] at this
        omega
      · omega
  · rw [hh, mi_ss, hk]
    rfl
  · have hj : j < min X.nu 7 + 1 := hj
    obtain ⟨i, i8, e1, i1⟩ := ro j (by omega)
    unfold rmH
    rw [if_pos hk, m73, e1]
    by_cases c1 : j < 7
    · rw [if_pos c1] at i1
      rw [if_pos c1, i1]
      obtain ⟨y, y1, y2⟩ := Hj (j + 1) (by omega)
      obtain ⟨Sy, By, -⟩ := H1 (j + 1) y (by omega) y1
      refine ⟨y, y1, RSx_of (fun o ho => blk y Sy By (fun z => ?_) o ho) y2⟩
      have := H2 (j + 1) 0 x (by omega) (by omega) (by rw [← z]; exact y1) ex0
      omega
    · rw [if_neg c1] at i1
      rw [if_neg c1, i1]
      exact ⟨x, ex0, rs_cp l2 e13 hn rz⟩
theorem rem_y (A : CIw X u d b c v cap h) (M : MO h) (k9 : h.kd 290 = some (.inr (.long, 1))) (hl : X.ld = true) : ∃ h1, RmO X u d b c v cap h h1 := by
  have f8 := A.2.2.2.1.2.2.2.2.2.2.2
  by_cases hk : X.nu = 8
  · exact rem_8 A M k9 hl hk
  · cases e : h.mr 273 X.nu with
    | none => exact rem_b A M k9 hl (by omega) e
    | some x => exact rem_a A M k9 hl (by omega) e
end RM6
