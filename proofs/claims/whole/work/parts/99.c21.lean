-- ===== undo, save, restore =====
section USR
variable {h0 h g : Mm} {c : Nat} {X : WX} {u d b cc v cap : Nat}
theorem un_c {k x : Nat} (A : CIw X u d b cc v cap h) (M : MO h) (k9 : h.kd 290 = some (.inr (.long, 1))) (hl : X.ld = true) (hk : X.nu = k + 1) (hx : h.mr 273 k = some x) {S : Nat → Int32} (hS : ∀ a, a < 1168 → S a = (X.hi k).2.2 a) : CW h (((h.si 200 11 (Int32.ofNat k)).sq (zu (h.mr 273) k (some b))).sr 200 7 (some x)) ∧ CIw (X.ch X.sv k ((X.hi k).1, (X.hi k).2.1, S) X.sd X.hi) u d x cc v cap (((h.si 200 11 (Int32.ofNat k)).sq (zu (h.mr 273) k (some b))).sr 200 7 (some x)) := by
  have A0 := A
  obtain ⟨⟨G, ud, Uu, Ud, Sb, Sc, Ss⟩, ⟨Bb, Bc, n1, n2, n3, hz⟩, ⟨H1, H2⟩, ⟨f1, f2, f3, f4, f5, f6, f7, f8⟩, L, V, Hj, ⟨TX, v1, v2⟩⟩ := A
  obtain ⟨h1, hh⟩ : ∃ h1, h1 = ((h.si 200 11 (Int32.ofNat k)).sq (zu (h.mr 273) k (some b))).sr 200 7 (some x) := ⟨_, rfl⟩
  rw [← hh]
  have kd : ∀ a, h1.kd a = h.kd a := fun a => by rw [hh]; rfl
  have mrr : h1.mr = zu2 (zu h.mr 273 (zu (h.mr 273) k (some b))) 200 7 (some x) := by rw [hh]; rfl
  have mr : ∀ a, a ≠ 200 → a ≠ 273 → h1.mr a = h.mr a := fun a a1 a2 => by rw [mrr, z2_o a1, zu_o a2]
  have m20 : ∀ j, j ≠ 7 → h1.mr 200 j = h.mr 200 j := fun j hj => by rw [mrr, z2_ne (Or.inr hj), zu_o (by decide)]
  have m27 : h1.mr 200 7 = some x := by rw [mrr, z2_s]
  have m73 : h1.mr 273 = zu (h.mr 273) k (some b) := by rw [mrr, z2_o (by decide), zu_same]
  have mi : ∀ a, a ≠ 200 → h1.mi a = h.mi a := fun a a2 => by rw [hh]; exact mi_sa a2
  have i20 : ∀ j, j ≠ 11 → h1.mi 200 j = h.mi 200 j := fun j hj => by rw [hh]; show (h.si 200 11 (Int32.ofNat k)).mi 200 j = _; exact mi_sk hj
  have i11 : h1.mi 200 11 = Int32.ofNat k := by rw [hh]; show (h.si 200 11 (Int32.ofNat k)).mi 200 11 = _; exact mi_ss
  have sz : h1.sz = h.sz := by rw [hh]; rfl
  obtain ⟨Sx, Bx, x1, x2, x3⟩ := H1 k x (by omega) hx
  have sto : ∀ y, ST h y → BK h y → ST h1 y := fun y Sy By => ST_of (h := h) (fun o ho => kd _) (fun o ho => mr _ (by have := By.1; omega) (by have := By.1; omega)) Sy
  have bko : ∀ y, BK h y → BK h1 y := fun y By => ⟨By.1, by have := By.2; omega⟩
  have blk : ∀ y, BK h y → ∀ o, o < 19 → h1.mi (y + o) = h.mi (y + o) := fun y By o ho => mi _ (by have := By.1; omega)
  have B4 : BK h 254 := ⟨Or.inl ⟨by decide, by decide⟩, by omega⟩
  refine ⟨⟨fun a ha => ⟨kd a, mi a (by omega), mr a (by omega) (by omega)⟩, fun a y z => ⟨kd a, mr a (by omega) (by omega), mi a (by omega), by rw [hh]; rfl⟩, by rw [hh]; exact Nat.le_add_right _ _, by rw [hh]; exact Nat.le_add_right _ _⟩, ?_⟩
  refine CIw_ch A0 M k9 (fun _ => False) (fun y e => e.elim) (fun e => e) (by omega) (fun a ha => ⟨kd a, fun a1 a2 => mr a a1 a2⟩) m20 (fun a ha a2 _ => mi a a2) (fun j j9 j11 => i20 j j11) m27 (sto x Sx Bx) (bko x Bx) x2 x3 ⟨fun j y hj e => ?_, fun j j' y hj hj' e e' => ?_⟩ (by rw [i20 9 (by decide)]; exact f6) i11 (by omega) (fun _ => ?_) (fun hs => RSx_of (fun o ho => blk 254 B4 o ho) (V hs)) (fun j hj => ?_)
  · rw [m73] at e
    by_cases ej : j = k
    · rw [ej, zu_same] at e
      cases e
      exact ⟨sto b Sb Bb, bko b Bb, Ne.symm x1, n1, n2⟩
    · rw [zu_o ej] at e
      obtain ⟨y1, y2, y3, y4, y5⟩ := H1 j y hj e
      exact ⟨sto y y1 y2, bko y y2, fun z => ej (H2 j k x hj (by omega) (by rw [← z]; exact e) hx), y4, y5⟩
  · rw [m73] at e e'
    by_cases ej : j = k
    · by_cases ej' : j' = k
      · rw [ej, ej']
      · rw [ej, zu_same] at e
        rw [zu_o ej'] at e'
        cases e
        exact absurd rfl (H1 j' b hj' e').2.2.1
    · rw [zu_o ej] at e
      by_cases ej' : j' = k
      · rw [ej', zu_same] at e'
        cases e'
        exact absurd rfl (H1 j b hj e).2.2.1
      · rw [zu_o ej'] at e'
        exact H2 j j' y hj hj' e e'
  · obtain ⟨y, y1, y2⟩ := Hj k (by omega)
    rw [hx] at y1
    cases y1
    have := RSx_of (fun o ho => blk x Bx o ho) y2
    exact RS_of this (fun _ _ _ => rfl) hS
  · obtain ⟨y, y1, y2⟩ := Hj j (by omega)
    obtain ⟨Sy, By, -⟩ := H1 j y (by omega) y1
    exact ⟨y, by rw [m73, zu_o (by omega)]; exact y1, RSx_of (fun o ho => blk y By o ho) y2⟩
theorem un_m {k : Nat} (M : MIw X g) (hl : X.ld = true) (hk : X.nu = k + 1) {s : Sz1} {S : Nat → Int32} (hs : s.2.2 = S) : MIw (X.ch X.sv k s X.sd X.hi) (((g.si 277 0 0).si 277 20 (Int32.ofNat k)).sw 283 S) := by
  obtain ⟨M0, ⟨f1, f2, f3, f4, f5, f6, f7, f8⟩, L, V, Hj, P, L0⟩ := M
  obtain ⟨m1, m2, m3⟩ := L hl
  have ej : ∀ j, j ≠ 0 → j ≠ 20 → (((g.si 277 0 0).si 277 20 (Int32.ofNat k)).sw 283 S).mi 277 j = g.mi 277 j := fun j j1 j2 => by rw [mi_swo (by decide), mi_sk j2, mi_sk j1]
  have eo : ∀ a, a ≠ 277 → a ≠ 283 → (((g.si 277 0 0).si 277 20 (Int32.ofNat k)).sw 283 S).mi a = g.mi a := fun a a1 a2 => by rw [mi_swo a2, mi_sa a1, mi_sa a1]
  refine ⟨M0, ⟨(ej 2 (by decide) (by decide)).trans f1, by rw [eo 278 (by decide) (by decide)]; exact f2, (ej 5 (by decide) (by decide)).trans f3, (ej 6 (by decide) (by decide)).trans f4, (ej 21 (by decide) (by decide)).trans f5, (ej 22 (by decide) (by decide)).trans f6, by rw [mi_swo (by decide)]; exact mi_ss, (ej 26 (by decide) (by decide)).trans f8⟩, fun _ => ⟨by rw [eo 279 (by decide) (by decide)]; exact m1, by rw [mi_sw]; exact hs.symm, m3⟩, fun hv => ?_, fun j hj a ha => ?_, by rw [eo 289 (by decide) (by decide)]; exact P, fun hf => ?_⟩
  · rw [eo 287 (by decide) (by decide)]
    exact V hv
  · rw [eo 286 (by decide) (by decide)]
    exact Hj j (by have : j < k := hj; omega) a ha
  · have hf : X.ld = false := hf
    rw [hl] at hf
    cases hf
theorem un_x {k : Nat} {s : Sz1} (xo : XOk c X) (hl : X.ld = true) (hk : k ≤ X.nu) (hs : s.2.1 ≤ 100 * (c + 1)) (hq : QL (1000000 * (c + 1)) X.ns s.2.2) : XOk (c + 1) (X.ch X.sv k s X.sd X.hi) := by
  obtain ⟨a1, a2, a3, a4, a5, a6, a7, b1, b2, b3⟩ := xo
  refine ⟨a1, by show k ≤ 8; omega, fun hf => ?_, hs, by show X.sd.2.1 ≤ _; omega, fun j hj => ?_, a7, fun _ => ql_up (by omega) hq, fun z => ql_up (by omega) (b2 z), fun j hj => ql_up (by omega) (b3 j (by have : j < k := hj; omega))⟩
  · have hf : X.ld = false := hf
    rw [hl] at hf
    cases hf
  · have hj : j < k := hj
    show (X.hi j).2.1 ≤ _
    have := a6 j (by omega)
    omega
theorem sa_c {n : Nat} (A : CIw X u d b cc v cap h) (M : MO h) (k9 : h.kd 290 = some (.inr (.long, 1))) (hl : X.ld = true) (hn : n ≤ 80) (e13 : rowsAt h b 13 0 = Int32.ofNat n) : CW h ((h.sb 254 (cpR X.cu.1 n (rowsAt h b) (rowsAt h 254))).si 200 9 1) ∧ CIw (X.ch true X.nu X.cu X.cu X.hi) u d b cc v cap ((h.sb 254 (cpR X.cu.1 n (rowsAt h b) (rowsAt h 254))).si 200 9 1) := by
  have A0 := A
  obtain ⟨⟨G, ud, Uu, Ud, Sb, Sc, Ss⟩, ⟨Bb, Bc, n1, n2, n3, hz⟩, ⟨H1, H2⟩, ⟨f1, f2, f3, f4, f5, f6, f7, f8⟩, L, V, Hj, ⟨TX, v1, v2⟩⟩ := A
  obtain ⟨l1, l2, l3⟩ := L hl
  have B4 : BK h 254 := ⟨Or.inl ⟨by decide, by decide⟩, by omega⟩
  have blk : ∀ y, ST h y → BK h y → y ≠ 254 → ∀ o, o < 19 → ((h.sb 254 (cpR X.cu.1 n (rowsAt h b) (rowsAt h 254))).si 200 9 1).mi (y + o) = h.mi (y + o) := fun y Sy By ny o ho => by
    have := st_dis Sy Ss ny
    have z := By.1
    exact (mi_sa (by omega)).trans (mi_sbo (by omega))
  refine ⟨CW.tr (CW.sb B4.1) CW.si (Nat.le_add_right _ _) (Nat.le_add_right _ _), ?_⟩
  refine CIw_ch A0 M k9 (fun y => y = 254) (fun y e => by subst e; exact ⟨Ss, B4⟩) (fun e => n3 e) (Nat.le_refl _) (fun a ha => ⟨rfl, fun _ _ => rfl⟩) (fun j _ => rfl) (fun a ha a2 ho => (mi_sa a2).trans (mi_sbo (ho 254 rfl))) (fun j j9 j11 => ?_) G.2.2.2.2.1 Sb Bb n1 n2 ⟨H1, H2⟩ mi_ss ?_ f8 (fun _ => RSx_of (fun o ho => blk b Sb Bb n2 o ho) l2) (fun hs => ?_) (fun j hj => ?_)
  · rw [mi_sk (by omega), mi_sbo (by omega)]
  · rw [mi_sk (by decide), mi_sbo (by omega)]
    exact f7
  · exact rs_cp l2 e13 hn (Q := rowsAt h 254) (fun o ho => (mi_sa (by omega)).trans (mi_sb ho))
  · obtain ⟨y, y1, y2⟩ := Hj j hj
    obtain ⟨Sy, By, -, -, y5⟩ := H1 j y (by omega) y1
    exact ⟨y, y1, RSx_of (fun o ho => blk y Sy By y5 o ho) y2⟩
theorem sa_m (M : MIw X g) (hl : X.ld = true) : MIw (X.ch true X.nu X.cu X.cu X.hi) (((g.si 277 0 0).sw 287 (upto 1168 (g.mi 283) (g.mi 287))).si 277 22 1) := by
  obtain ⟨M0, ⟨f1, f2, f3, f4, f5, f6, f7, f8⟩, L, V, Hj, P, L0⟩ := M
  obtain ⟨m1, m2, m3⟩ := L hl
  have ej : ∀ j, j ≠ 0 → j ≠ 22 → (((g.si 277 0 0).sw 287 (upto 1168 (g.mi 283) (g.mi 287))).si 277 22 1).mi 277 j = g.mi 277 j := fun j j1 j2 => by rw [mi_sk j2, mi_swo (by decide), mi_sk j1]
  have eo : ∀ a, a ≠ 277 → a ≠ 287 → (((g.si 277 0 0).sw 287 (upto 1168 (g.mi 283) (g.mi 287))).si 277 22 1).mi a = g.mi a := fun a a1 a2 => by rw [mi_sa a1, mi_swo a2, mi_sa a1]
  refine ⟨M0, ⟨(ej 2 (by decide) (by decide)).trans f1, by rw [eo 278 (by decide) (by decide)]; exact f2, (ej 5 (by decide) (by decide)).trans f3, (ej 6 (by decide) (by decide)).trans f4, (ej 21 (by decide) (by decide)).trans f5, mi_ss, (ej 20 (by decide) (by decide)).trans f7, (ej 26 (by decide) (by decide)).trans f8⟩, fun _ => ⟨by rw [eo 279 (by decide) (by decide)]; exact m1, by rw [eo 283 (by decide) (by decide)]; exact m2, m3⟩, fun hv a ha => ?_, fun j hj a ha => ?_, by rw [eo 289 (by decide) (by decide)]; exact P, fun hf => ?_⟩
  · rw [mi_sa (by decide), mi_sw]
    show upto 1168 (g.mi 283) (g.mi 287) a = X.cu.2.2 a
    rw [← m2]
    exact if_pos ha
  · rw [eo 286 (by decide) (by decide)]
    exact Hj j hj a ha
  · have hf : X.ld = false := hf
    rw [hl] at hf
    cases hf
theorem re_c {n : Nat} {S : Nat → Int32} (A : CIw X u d b cc v cap h) (M : MO h) (k9 : h.kd 290 = some (.inr (.long, 1))) (hs : X.sv = true) (hn : n ≤ 80) (e13 : rowsAt h 254 13 0 = Int32.ofNat n) (hS : ∀ a, a < 1168 → S a = X.sd.2.2 a) : CW h ((h.sb b (cpR X.sd.1 n (rowsAt h 254) (rowsAt h b))).si 200 11 0) ∧ CIw (X.ch X.sv 0 (X.sd.1, X.sd.2.1, S) X.sd X.hi) u d b cc v cap ((h.sb b (cpR X.sd.1 n (rowsAt h 254) (rowsAt h b))).si 200 11 0) := by
  have A0 := A
  obtain ⟨⟨G, ud, Uu, Ud, Sb, Sc, Ss⟩, ⟨Bb, Bc, n1, n2, n3, hz⟩, ⟨H1, H2⟩, ⟨f1, f2, f3, f4, f5, f6, f7, f8⟩, L, V, Hj, ⟨TX, v1, v2⟩⟩ := A
  have l2 := V hs
  have B4 : BK h 254 := ⟨Or.inl ⟨by decide, by decide⟩, by omega⟩
  have bb := Bb.1
  have dis := st_dis Ss Sb (Ne.symm n2)
  refine ⟨CW.tr (CW.sb Bb.1) CW.si (Nat.le_add_right _ _) (Nat.le_add_right _ _), ?_⟩
  refine CIw_ch A0 M k9 (fun y => y = b) (fun y e => by subst e; exact ⟨Sb, Bb⟩) (fun e => n1 e.symm) (Nat.le_refl _) (fun a ha => ⟨rfl, fun _ _ => rfl⟩) (fun j _ => rfl) (fun a ha a2 ho => (mi_sa a2).trans (mi_sbo (ho b rfl))) (fun j j9 j11 => ?_) G.2.2.2.2.1 Sb Bb n1 n2 ⟨H1, H2⟩ ?_ mi_ss (by decide) (fun _ => ?_) (fun _ => RSx_of (fun o ho => (mi_sa (by omega)).trans (mi_sbo (by omega))) l2) (fun j hj => absurd hj (Nat.not_lt_zero _))
  · rw [mi_sk (by omega), mi_sbo (by omega)]
  · rw [mi_sk (by decide), mi_sbo (by omega)]
    exact f6
  · have z1 : RSx X (rowsAt ((h.sb b (cpR X.sd.1 n (rowsAt h 254) (rowsAt h b))).si 200 11 0) b) X.sd := rs_cp l2 e13 hn (Q := rowsAt h b) (fun o ho => (mi_sa (by omega)).trans (mi_sb ho))
    exact RS_of z1 (fun _ _ _ => rfl) hS
theorem re_m {s : Sz1} {S : Nat → Int32} (M : MIw X g) (hl : X.ld = true) (hs : s.2.2 = S) : MIw (X.ch X.sv 0 s X.sd X.hi) (((g.si 277 0 0).sw 283 S).si 277 20 0) := by
  obtain ⟨M0, ⟨f1, f2, f3, f4, f5, f6, f7, f8⟩, L, V, Hj, P, L0⟩ := M
  obtain ⟨m1, m2, m3⟩ := L hl
  have ej : ∀ j, j ≠ 0 → j ≠ 20 → (((g.si 277 0 0).sw 283 S).si 277 20 0).mi 277 j = g.mi 277 j := fun j j1 j2 => by rw [mi_sk j2, mi_swo (by decide), mi_sk j1]
  have eo : ∀ a, a ≠ 277 → a ≠ 283 → (((g.si 277 0 0).sw 283 S).si 277 20 0).mi a = g.mi a := fun a a1 a2 => by rw [mi_sa a1, mi_swo a2, mi_sa a1]
  refine ⟨M0, ⟨(ej 2 (by decide) (by decide)).trans f1, by rw [eo 278 (by decide) (by decide)]; exact f2, (ej 5 (by decide) (by decide)).trans f3, (ej 6 (by decide) (by decide)).trans f4, (ej 21 (by decide) (by decide)).trans f5, (ej 22 (by decide) (by decide)).trans f6, mi_ss, (ej 26 (by decide) (by decide)).trans f8⟩, fun _ => ⟨by rw [eo 279 (by decide) (by decide)]; exact m1, by rw [mi_sa (by decide), mi_sw]; exact hs.symm, m3⟩, fun hv => ?_, fun j hj => absurd hj (Nat.not_lt_zero _), by rw [eo 289 (by decide) (by decide)]; exact P, fun hf => ?_⟩
  · rw [eo 287 (by decide) (by decide)]
    exact V hv
  · have hf : X.ld = false := hf
    rw [hl] at hf
    cases hf
end USR
theorem st_57 {h0 : Mm} {c sc len : Nat} (Sa : STA h0 sc len) (hc : c ≤ 600) : STP h0 sc len c 3208 := by
  intro i tl h hi hI
  obtain ⟨X, u, d, b, cc, v, cap, I⟩ := hI
  have I : IN6 h0 c X u d b cc v cap h := I
  obtain ⟨ks, hl, k2, e4, e21⟩ := in_f I Sa
  have A := I.2.1
  have M := I.2.2.1
  have G := A.1.1
  have U := A.1.2.2.1
  have T := A.1.2.2.2.2.1
  have f11 := A.2.2.2.1.2.2.2.2.2.2.1
  have f8 := I.1.2.1
  have m20 : h.mi 277 20 = Int32.ofNat X.nu := M.2.1.2.2.2.2.2.2.1
  cases hnu : X.nu with
  | zero =>
    rw [hnu] at f11 m20
    obtain ⟨H1, s1, s2, s3, f7, f9, f3, -⟩ := in_g I Sa CQ.thr (Or.inl rfl)
    have g2 := m_17n H1 (by rw [f7]; exact m20)
    obtain ⟨J, j7, j9, jm⟩ := in_cm I CQ.thr (Or.inl rfl) (MQw.t (x := 1))
    obtain ⟨tl', e⟩ := lx_57 (tl := tl) hl hi ks s1 s2 k2 s3 j7 (m_5 jm) z_1 (w_16_x0 k2 (m_152n G f11)) g2 mi_ss
    exact ⟨tl', _, e, J⟩
  | succ j =>
    rw [hnu] at f11 m20
    have hld : X.ld = true := by
      cases z : X.ld with
      | true => rfl
      | false =>
        have := (I.1.2.2.1 z).2
        omega
    obtain ⟨x, hx, -⟩ := A.2.2.2.2.2.2.1 j (by omega)
    have n4 : X.ns ≤ 4 := (A.2.2.2.2.1 hld).1.2.1.2.2.2.2.2.1
    have g1 := m_152y (k := j) (x := x) (by omega) G T f11 hx
    have hS : ∀ a, a < 1168 → va_cpy (h.mi 286) (h.mi 283) (1168 * j) 0 1168 a = (X.hi j).2.2 a := fun a ha => by
      unfold va_cpy
      rw [if_pos (by omega)]
      have := M.2.2.2.2.1 j (by omega) a ha
      rw [← this]
      exact congrArg (h.mi 286) (by omega)
    obtain ⟨cw, ci⟩ := un_c A M.1 I.2.2.2.2.2 hld hnu hx hS
    obtain ⟨hc1, hhc⟩ : ∃ hc1, hc1 = ((h.si 200 11 (Int32.ofNat j)).sq (zu (h.mr 273) j (some b))).sr 200 7 (some x) := ⟨_, rfl⟩
    rw [← hhc] at g1 cw ci
    obtain ⟨vv, hv⟩ : ∃ vv, vv = Int32.ofNat j := ⟨_, rfl⟩
    rw [← hv] at g1
    obtain ⟨M1, H1, s1, s2, s3, fa, k90⟩ := in_w I Sa cw (Or.inr ⟨vv.toInt64, rfl⟩)
    obtain ⟨h1', hh1⟩ : ∃ h1', h1' = hc1.sl 290 0 vv.toInt64 := ⟨_, rfl⟩
    rw [← hh1] at M1 H1 s1 s2 s3 fa
    have f7 : h1'.mi 277 = h.mi 277 := fa 277 (by decide) (by decide)
    have f9 : h1'.mi 279 = h.mi 279 := fa 279 (by decide) (by decide)
    have f3 : h1'.mi 283 = h.mi 283 := fa 283 (by decide) (by decide)
    have f6 : h1'.mi 286 = h.mi 286 := fa 286 (by decide) (by decide)
    have g2 := m_17y (u := j) (by omega) H1 (by rw [f7]; exact m20)
    rw [f3, f6] at g2
    subst hv
    obtain ⟨J, j7, j9, jm⟩ := in_ch I cw ci (Or.inr ⟨(Int32.ofNat j).toInt64, hh1⟩) (((FrM.si (by decide) (by decide)).tr (FrM.si (by decide) (by decide))).tr (FrM.sw (by decide) (by decide))) (un_m M1 hld hnu rfl) (un_x I.1 hld (by omega) (by have := I.1.2.2.2.2.2.1 j (by omega); show (X.hi j).2.1 ≤ _; omega) (ql_of n4 hS (I.1.2.2.2.2.2.2.2.2.2 j (by omega))))
    subst hh1
    obtain ⟨tl', e⟩ := lv_57 (tl := tl) hl hi ks s1 s2 k2 s3 j7 (m_5 jm) j9 (w_16 k2 k90 g1) g2 (by rw [mi_swo (by decide), mi_sk (by decide)]; exact mi_ss) sl_ml
    exact ⟨tl', _, e, J⟩
theorem st_59 {h0 : Mm} {c sc len : Nat} (Sa : STA h0 sc len) (hc : c ≤ 600) : STP h0 sc len c 3265 := by
  intro i tl h hi hI
  obtain ⟨X, u, d, b, cc, v, cap, I⟩ := hI
  have I : IN6 h0 c X u d b cc v cap h := I
  obtain ⟨ks, hl, k2, e4, e21⟩ := in_f I Sa
  have A := I.2.1
  have M := I.2.2.1
  have G := A.1.1
  have U := A.1.2.2.1
  have T := A.1.2.2.2.2.1
  cases hld : X.ld with
  | false =>
    rw [hld, b2i_0] at e4 e21
    obtain ⟨H1, s1, s2, s3, f7, f9, f3, -⟩ := in_g I Sa CQ.thr (Or.inl rfl)
    have g2 := m_13n H1 (by rw [f7]; exact e21)
    obtain ⟨J, j7, j9, jm⟩ := in_cm I CQ.thr (Or.inl rfl) (MQw.t (x := 1))
    obtain ⟨tl', e⟩ := lx_59 (tl := tl) hl hi ks s1 s2 k2 s3 j7 (m_5 jm) z_1 (w_12_x0 k2 (m_151n G e4)) g2 mi_ss
    exact ⟨tl', _, e, J⟩
  | true =>
    rw [hld, b2i_1] at e4 e21
    have nl : ¬ h.mi 200 4 = 0 := by rw [e4]; exact z_1
    obtain ⟨i0, pc, n, q, E, V, Jj, P, -⟩ := in_cur I hld
    have VN := V.1.2
    have PN := P.2.1
    have Ts := A.1.2.2.2.2.2.2
    have n2 := A.2.1.2.2.2.1
    have g1 := m_151y (n := X.cu.1) (m := n) (by omega) (by omega) (st_dis T Ts n2) (by have := A.2.1.1.1; omega) G T Ts nl V.1.1.2.2.1 V.1.1.2.2.2.2.1
    obtain ⟨cw, ci⟩ := sa_c (n := n) A M.1 I.2.2.2.2.2 hld (by omega) V.1.1.2.2.2.2.1
    obtain ⟨hc1, hhc⟩ : ∃ hc1, hc1 = (h.sb 254 (cpR X.cu.1 n (rowsAt h b) (rowsAt h 254))).si 200 9 1 := ⟨_, rfl⟩
    rw [← hhc] at g1 cw ci
    obtain ⟨vv, hv⟩ : ∃ vv, vv = h.mi b 0 := ⟨_, rfl⟩
    rw [← hv] at g1
    obtain ⟨M1, H1, s1, s2, s3, fa, k90⟩ := in_w I Sa cw (Or.inr ⟨vv.toInt64, rfl⟩)
    obtain ⟨h1', hh1⟩ : ∃ h1', h1' = hc1.sl 290 0 vv.toInt64 := ⟨_, rfl⟩
    rw [← hh1] at M1 H1 s1 s2 s3 fa
    have f7 : h1'.mi 277 = h.mi 277 := fa 277 (by decide) (by decide)
    have f9 : h1'.mi 279 = h.mi 279 := fa 279 (by decide) (by decide)
    have f3 : h1'.mi 283 = h.mi 283 := fa 283 (by decide) (by decide)
    have g2 := m_13y H1 (by rw [f7, e21]; exact z_1)
    rw [f3, show h.mi 283 0 = h.mi b 0 from E.1.1, ← hv, ← f3] at g2
    have xo := I.1
    obtain ⟨J, j7, j9, jm⟩ := in_ch I cw ci (Or.inr ⟨vv.toInt64, hh1⟩) (((FrM.si (by decide) (by decide)).tr (FrM.sw (by decide) (by decide))).tr (FrM.si (by decide) (by decide))) (sa_m M1 hld) (show XOk (c + 1) (X.ch true X.nu X.cu X.cu X.hi) from ⟨xo.1, xo.2.1, fun z => (by rw [show X.ld = false from z] at hld; cases hld), by show X.cu.2.1 ≤ _; have := xo.2.2.2.1; omega, by show X.cu.2.1 ≤ _; have := xo.2.2.2.1; omega, fun j hj => by have := xo.2.2.2.2.2.1 j hj; show (X.hi j).2.1 ≤ _; omega, xo.2.2.2.2.2.2.1, fun _ => ql_up (by omega) (xo.2.2.2.2.2.2.2.1 hld), fun _ => ql_up (by omega) (xo.2.2.2.2.2.2.2.1 hld), fun j hj => ql_up (by omega) (xo.2.2.2.2.2.2.2.2.2 j hj)⟩)
    subst hh1
    obtain ⟨tl', e⟩ := lv_59 (tl := tl) hl hi ks s1 s2 k2 s3 j7 (m_5 jm) j9 (w_12 k2 k90 g1) g2 (by rw [mi_sk (by decide), mi_swo (by decide)]; exact mi_ss) sl_ml
    exact ⟨tl', _, e, J⟩
theorem st_60 {h0 : Mm} {c sc len : Nat} (Sa : STA h0 sc len) (hc : c ≤ 600) : STP h0 sc len c 3309 := by
  intro i tl h hi hI
  obtain ⟨X, u, d, b, cc, v, cap, I⟩ := hI
  have I : IN6 h0 c X u d b cc v cap h := I
  obtain ⟨ks, hl, k2, e4, e21⟩ := in_f I Sa
  have A := I.2.1
  have M := I.2.2.1
  have G := A.1.1
  have U := A.1.2.2.1
  have T := A.1.2.2.2.2.1
  have f9s := A.2.2.2.1.2.2.2.2.2.1
  have m22 : h.mi 277 22 = b2i X.sv := M.2.1.2.2.2.2.2.1
  cases hsv : X.sv with
  | false =>
    rw [hsv, b2i_0] at f9s m22
    obtain ⟨H1, s1, s2, s3, f7, f9, f3, -⟩ := in_g I Sa CQ.thr (Or.inl rfl)
    have g2 := m_11n H1 (by rw [f7]; exact m22)
    obtain ⟨J, j7, j9, jm⟩ := in_cm I CQ.thr (Or.inl rfl) (MQw.t (x := 1))
    obtain ⟨tl', e⟩ := lx_60 (tl := tl) hl hi ks s1 s2 k2 s3 j7 (m_5 jm) z_1 (w_10_x0 k2 (m_149n G f9s)) g2 mi_ss
    exact ⟨tl', _, e, J⟩
  | true =>
    rw [hsv, b2i_1] at f9s m22
    have hld : X.ld = true := by
      cases z : X.ld with
      | true => rfl
      | false =>
        have := (I.1.2.2.1 z).1
        rw [hsv] at this
        cases this
    have Ts := A.1.2.2.2.2.2.2
    have n2 := A.2.1.2.2.2.1
    have Zs := A.2.2.2.2.2.1 hsv
    have n4 : X.ns ≤ 4 := (A.2.2.2.2.1 hld).1.2.1.2.2.2.2.2.1
    obtain ⟨n, hn, hm, e13, e7⟩ := rs_13 Zs
    have g1 := m_149y (n := X.sd.1) (m := n) hn hm (st_dis T Ts n2) (by have := A.2.1.1.1; omega) G T Ts (by rw [f9s]; exact z_1) e7 e13
    have ms := M.2.2.2.1 hsv
    have hS : ∀ a, a < 1168 → upto 1168 (h.mi 287) (h.mi 283) a = X.sd.2.2 a := fun a ha => by
      rw [← ms a ha]
      exact if_pos ha
    obtain ⟨cw, ci⟩ := re_c (n := n) A M.1 I.2.2.2.2.2 hsv hn e13 hS
    have t0 : upto 1168 (h.mi 287) (h.mi 283) 0 = h.mi 254 0 := by
      rw [hS 0 (by decide)]
      obtain ⟨i1, pc1, n1, q1, E1, -⟩ := Zs
      exact E1.1.1
    obtain ⟨hc1, hhc⟩ : ∃ hc1, hc1 = (h.sb b (cpR X.sd.1 n (rowsAt h 254) (rowsAt h b))).si 200 11 0 := ⟨_, rfl⟩
    rw [← hhc] at g1 cw ci
    obtain ⟨vv, hv⟩ : ∃ vv, vv = h.mi 254 0 := ⟨_, rfl⟩
    rw [← hv] at g1
    obtain ⟨M1, H1, s1, s2, s3, fa, k90⟩ := in_w I Sa cw (Or.inr ⟨vv.toInt64, rfl⟩)
    obtain ⟨h1', hh1⟩ : ∃ h1', h1' = hc1.sl 290 0 vv.toInt64 := ⟨_, rfl⟩
    rw [← hh1] at M1 H1 s1 s2 s3 fa
    have f7 : h1'.mi 277 = h.mi 277 := fa 277 (by decide) (by decide)
    have f9 : h1'.mi 279 = h.mi 279 := fa 279 (by decide) (by decide)
    have f3 : h1'.mi 283 = h.mi 283 := fa 283 (by decide) (by decide)
    have f8 : h1'.mi 287 = h.mi 287 := fa 287 (by decide) (by decide)
    have g2 := m_11y H1 (by rw [f7, m22]; exact z_1)
    rw [f3, f8, t0, ← hv] at g2
    obtain ⟨J, j7, j9, jm⟩ := in_ch I cw ci (Or.inr ⟨vv.toInt64, hh1⟩) (((FrM.si (by decide) (by decide)).tr (FrM.sw (by decide) (by decide))).tr (FrM.si (by decide) (by decide))) (re_m M1 hld rfl) (un_x I.1 hld (by omega) (by have := I.1.2.2.2.2.1; show X.sd.2.1 ≤ _; omega) (ql_of n4 hS (I.1.2.2.2.2.2.2.2.2.1 hsv)))
    subst hh1
    obtain ⟨tl', e⟩ := lv_60 (tl := tl) hl hi ks s1 s2 k2 s3 j7 (m_5 jm) j9 (w_10 k2 k90 g1) g2 (by rw [mi_sk (by decide), mi_swo (by decide)]; exact mi_ss) sl_ml
    exact ⟨tl', _, e, J⟩
