-- ===== a change: class and model =====
section CH8
variable {h0 h h1 h1' g : Mm} {c : Nat} {X : WX} {u d b cc v cap sc len : Nat} {R : Nat → Nat → Int32} {S : Nat → Int32} {m tm : Nat} {s : Sz1}
theorem rm_w (rm : RmO X u d b cc v cap h h1) : CW h (h1.sb b R) := CW.tr rm.2.1 (CW.sb rm.2.2.1.2.1.1.1) rm.2.1.2.2.1 rm.2.1.2.2.2
theorem rm_c (M : MO h) (k9 : h.kd 290 = some (.inr (.long, 1))) (rm : RmO X u d b cc v cap h h1) (Z : X.ld = true → RSx X R s) : CIw (X.ch X.sv (min X.nu 7 + 1) s X.sd (rmH X)) u d b cc v cap (h1.sb b R) := by
  obtain ⟨-, W, A, -⟩ := rm
  have A0 := A
  have M1 : MO h1 := MO_of (fun a x y => ⟨(W.2.1 a x (by omega)).1, (W.2.1 a x (by omega)).2.1⟩) M
  have k91 : h1.kd 290 = some (.inr (.long, 1)) := (W.2.1 290 (by decide) (by decide)).1.trans k9
  obtain ⟨⟨G, ud, Uu, Ud, Sb, Sc, Ss⟩, ⟨Bb, Bc, n1, n2, n3, hz⟩, ⟨H1, H2⟩, ⟨f1, f2, f3, f4, f5, f6, f7, f8⟩, L, V, Hj, ⟨TX, v1, v2⟩⟩ := A
  have bb := Bb.1
  have blk : ∀ y, ST h1 y → y ≠ b → ∀ o, o < 19 → (h1.sb b R).mi (y + o) = h1.mi (y + o) := fun y Sy ny o ho => by
    have := st_dis Sy Sb ny
    exact mi_sbo (by omega)
  have o20 : (200 : Nat) < b ∨ b + 19 ≤ 200 := by omega
  show CIw (X.rm.ch X.sv (min X.nu 7 + 1) s X.sd (rmH X)) u d b cc v cap (h1.sb b R)
  refine CIw_ch A0 M1 k91 (fun y => y = b) (fun y e => by subst e; exact ⟨Sb, Bb⟩) (fun e => n1 e.symm) (Nat.le_refl _) (fun a ha => ⟨rfl, fun _ _ => rfl⟩) (fun j _ => rfl) (fun a ha a2 ho => mi_sbo (ho b rfl)) (fun j j9 j11 => by rw [mi_sbo o20]) G.2.2.2.2.1 Sb Bb n1 n2 ⟨H1, H2⟩ (by rw [mi_sbo o20]; exact f6) (by rw [mi_sbo o20]; exact f7) (by omega) (fun hl => RSx_of (fun o ho => mi_sb ho) (Z hl)) (fun hs => RSx_of (fun o ho => blk 254 Ss (Ne.symm n2) o ho) (V hs)) (fun j hj => ?_)
  obtain ⟨y, y1, y2⟩ := Hj j hj
  obtain ⟨Sy, By, y3, -⟩ := H1 j y (by omega) y1
  exact ⟨y, y1, RSx_of (fun o ho => blk y Sy y3 o ho) y2⟩
theorem rm_f (I : IN6 h0 c X u d b cc v cap h) (hl : X.ld = true) (rm : RmO X u d b cc v cap h h1) : GO h1 u d b cc ∧ SU h1 u ∧ ST h1 b ∧ ∃ i pc n q, EqR X.ns X.cu.1 pc n (Int32.ofNat X.du) (rowsAt h1 b) (h.mi 283) ∧ IvR X.ns X.cu.1 i pc n q X.cu.2.1 (rowsAt h1 b) ∧ EqJ X.cu.1 (rowsAt h1 b) (h.mi 283) ∧ PlR X.ns X.st X.du (rowsAt h1 u) (h.mi 279) := by
  have A := rm.2.2.1
  have M := I.2.2.1
  obtain ⟨l1, l2, -⟩ := A.2.2.2.2.1 hl
  obtain ⟨m1, m2, -⟩ := M.2.2.1 hl
  obtain ⟨i, pc, n, q, E, V, J⟩ := l2
  rw [show X.rm.cu.2.2 = h.mi 283 from m2.symm] at E J
  rw [show X.rm.pl = h.mi 279 from m1.symm] at l1
  exact ⟨A.1.1, A.1.2.2.1, A.1.2.2.2.2.1, i, pc, n, q, E, V, J, l1⟩
-- the model's side
theorem ch_0 {u : Nat} : (h.chM u S).mi 277 0 = 0 := by
  unfold Mm.chM
  rw [mi_swo (by decide), mi_sk (by decide), mi_swo (by decide)]
  exact mi_ss
theorem ch_j {u j : Nat} (h1 : j ≠ 0) (h2 : j ≠ 20) : (h.chM u S).mi 277 j = h.mi 277 j := by
  unfold Mm.chM
  rw [mi_swo (by decide), mi_sk h2, mi_swo (by decide), mi_sk h1]
theorem ch_20 {u : Nat} : (h.chM u S).mi 277 20 = Int32.ofNat (min u 7 + 1) := by
  unfold Mm.chM
  rw [mi_swo (by decide)]
  exact mi_ss
theorem ch_o {u a : Nat} (h1 : a ≠ 277) (h2 : a ≠ 283) (h3 : a ≠ 286) : (h.chM u S).mi a = h.mi a := by
  unfold Mm.chM
  rw [mi_swo h2, mi_sa h1, mi_swo h3, mi_sa h1]
theorem ch_86 {u : Nat} : (h.chM u S).mi 286 = remH (h.mi 283) (h.mi 286) u := by
  unfold Mm.chM
  rw [mi_swo (by decide), mi_sa (by decide), mi_sw]
theorem ch_fr {u : Nat} : FrM h (h.chM u S) := ((FrM.si (by decide) (by decide)).tr (FrM.sw (by decide) (by decide))).tr ((FrM.si (by decide) (by decide)).tr (FrM.sw (by decide) (by decide)))
theorem rem_h (hu : X.nu ≤ 8) {H Sc : Nat → Int32} (hc : Sc = X.cu.2.2) (Hj : ∀ j, j < X.nu → ∀ a, a < 1168 → H (1168 * j + a) = (X.hi j).2.2 a) : ∀ j, j < min X.nu 7 + 1 → ∀ a, a < 1168 → remH Sc H X.nu (1168 * j + a) = (rmH X j).2.2 a := by
  intro j hj a ha
  unfold remH rmH va_cpy
  by_cases e8 : X.nu = 8
  · rw [if_pos e8, if_pos e8]
    by_cases j7 : j < 7
    · rw [if_neg (by omega), if_pos j7]
      unfold shH
      rw [if_pos (by omega), show 1168 * j + a + 1168 = 1168 * (j + 1) + a by omega]
      exact Hj (j + 1) (by omega) a ha
    · rw [if_pos (by omega), if_neg j7, hc]
      exact congrArg X.cu.2.2 (by omega)
  · rw [if_neg e8, if_neg e8]
    by_cases ej : j = X.nu
    · rw [if_pos (by omega), if_pos ej, hc]
      exact congrArg X.cu.2.2 (by omega)
    · rw [if_neg (by omega), if_neg ej]
      exact Hj j (by omega) a ha
theorem ch_m (M : MIw X g) (hl : X.ld = true) (hu : X.nu ≤ 8) (hs : s.2.2 = S) : MIw (X.ch X.sv (min X.nu 7 + 1) s X.sd (rmH X)) (g.chM X.nu S) := by
  obtain ⟨M0, ⟨f1, f2, f3, f4, f5, f6, f7, f8⟩, L, V, Hj, P, L0⟩ := M
  obtain ⟨m1, m2, m3⟩ := L hl
  refine ⟨MO_ch M0, ⟨by rw [ch_j (by decide) (by decide)]; exact f1, by rw [ch_o (by decide) (by decide) (by decide)]; exact f2, by rw [ch_j (by decide) (by decide)]; exact f3, by rw [ch_j (by decide) (by decide)]; exact f4, by rw [ch_j (by decide) (by decide)]; exact f5, by rw [ch_j (by decide) (by decide)]; exact f6, ch_20, by rw [ch_j (by decide) (by decide)]; exact f8⟩, fun _ => ⟨by rw [ch_9]; exact m1, by rw [ch_3]; exact hs.symm, m3⟩, fun hv => ?_, fun j hj a ha => ?_, by rw [ch_o (by decide) (by decide) (by decide)]; exact P, fun hf => ?_⟩
  · rw [ch_o (by decide) (by decide) (by decide)]
    exact V hv
  · rw [ch_86]
    exact rem_h hu m2 Hj j hj a ha
  · have hf : X.ld = false := hf
    rw [hl] at hf
    cases hf
theorem ch_xo (xo : XOk c X) (hl : X.ld = true) (hs : s.2.1 ≤ X.cu.2.1 + 100) (hq : QL (1000000 * (c + 1 + 1)) X.ns s.2.2) : XOk (c + 1) (X.ch X.sv (min X.nu 7 + 1) s X.sd (rmH X)) := by
  obtain ⟨a1, a2, a3, a4, a5, a6, a7, b1, b2, b3⟩ := xo
  refine ⟨a1, by show min X.nu 7 + 1 ≤ 8; omega, fun hf => ?_, by show s.2.1 ≤ _; omega, by show X.sd.2.1 ≤ _; omega, fun j hj => ?_, a7, fun _ => hq, fun z => ql_up (by omega) (b2 z), fun j hj => ?_⟩
  · have hf : X.ld = false := hf
    rw [hl] at hf
    cases hf
  · have hj : j < min X.nu 7 + 1 := hj
    show (rmH X j).2.1 ≤ _
    unfold rmH
    by_cases e8 : X.nu = 8
    · rw [if_pos e8]
      by_cases j7 : j < 7
      · rw [if_pos j7]
        have := a6 (j + 1) (by omega)
        omega
      · rw [if_neg j7]
        omega
    · rw [if_neg e8]
      by_cases ej : j = X.nu
      · rw [if_pos ej]
        omega
      · rw [if_neg ej]
        have := a6 j (by omega)
        omega
  · have hj : j < min X.nu 7 + 1 := hj
    show QL _ X.ns (rmH X j).2.2
    unfold rmH
    by_cases e8 : X.nu = 8
    · rw [if_pos e8]
      by_cases j7 : j < 7
      · rw [if_pos j7]
        exact ql_up (by omega) (b3 (j + 1) (by omega))
      · rw [if_neg j7]
        exact ql_up (by omega) (b1 hl)
    · rw [if_neg e8]
      by_cases ej : j = X.nu
      · rw [if_pos ej]
        exact ql_up (by omega) (b1 hl)
      · rw [if_neg ej]
        exact ql_up (by omega) (b3 j (by omega))
theorem in_rem (I : IN6 h0 c X u d b cc v cap h) (hl : X.ld = true) (rm : RmO X u d b cc v cap h h1) (Z : RS X.ns X.du m tm R S) (ht : tm ≤ X.cu.2.1 + 100) (hq : QR (1000000 * (c + 1)) X.ns (rowsAt h1 b) → QR (1000000 * (c + 1 + 1)) X.ns R) (l : h1' = h1.sb b R ∨ ∃ w, h1' = (h1.sb b R).sl 290 0 w) : INV h0 (c + 1) (h1'.chM X.nu S) ∧ (h1'.chM X.nu S).kd 277 = some (.inl 8) ∧ (h1'.chM X.nu S).kd 290 = some (.inr (.long, 1)) ∧ MO (h1'.chM X.nu S) := by
  have M1 := MIw_cw I.2.2.1 (rm_w (R := R) rm) l
  have hu := I.1.2.1
  have q1 : QL (1000000 * (c + 1)) X.ns X.cu.2.2 := I.1.2.2.2.2.2.2.2.1 hl
  obtain ⟨l1, l2, -⟩ := rm.2.2.1.2.2.2.2.1 hl
  have n4 : X.ns ≤ 4 := l1.2.1.2.2.2.2.2.1
  obtain ⟨i1, pc1, n1, q2, E1, -⟩ := l2
  have E1 : EqR X.ns X.cu.1 pc1 n1 (Int32.ofNat X.du) (rowsAt h1 b) X.cu.2.2 := E1
  have Z0 := Z
  obtain ⟨i3, pc3, n3, q3, E3, -⟩ := Z
  have q4 : QL (1000000 * (c + 1 + 1)) X.ns S := (ql_r n4 E3).mpr (hq ((ql_r n4 E1).mp q1))
  exact in_ch I (rm_w (R := R) rm) (rm_c (s := (m, tm, S)) I.2.2.1.1 I.2.2.2.2.2 rm (fun _ => Z0)) l ch_fr (ch_m M1 hl hu rfl) (ch_xo I.1 hl ht q4)
end CH8
