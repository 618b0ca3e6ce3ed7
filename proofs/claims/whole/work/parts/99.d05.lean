-- ===== the law's start: what the Statement gives =====
set_option maxRecDepth 100000 in
theorem zSel_in : Cond.selects "java/lang/StringBuilder" ⟨"java/lang/AbstractStringBuilder", "isLatin1", "()Z"⟩ ⟨"java/lang/AbstractStringBuilder", "isLatin1", "()Z"⟩ ∈ lw_tbl := tk_in 4 _ (List.mem_of_getElem? (i := 55) rfl)
section ZST
variable {b L : Nat} {xs : Nat → Int32} {s : State}
theorem z_wds (hts : ∀ w ∈ lw_tbl, w.before #[Value.ref b] s = true) : WD s := by
  intro w hw hu
  have h0 := hts w hw
  by_cases hg : goodWord w = true
  · exact word_at (State.WarmedH.refl s) (good_of_word hg) h0
  · have hn := useW_or hu hg
    clear hg hu hw
    cases w <;> first | exact va_Nw.of rfl h0 | cases hn
theorem z_cls (hts : ∀ w ∈ lw_tbl, w.before #[Value.ref b] s = true) : ∃ D : va_G, ∀ (c : Nat) (q : vw_C), classes[c]? = some q → u_Kn s q.1 q.2.1 q.2.2 (D.1 c) (D.2 c) := by
  have h : ∀ c : Nat, ∃ x : ClassId × (Nat → Nat), ∀ q : vw_C, classes[c]? = some q → u_Kn s q.1 q.2.1 q.2.2 x.1 x.2 := by
    intro c
    by_cases hc : c < 11
    · have : c = 0 ∨ c = 1 ∨ c = 2 ∨ c = 3 ∨ c = 4 ∨ c = 5 ∨ c = 6 ∨ c = 7 ∨ c = 8 ∨ c = 9 ∨ c = 10 := by omega
      rcases this with rfl | rfl | rfl | rfl | rfl | rfl | rfl | rfl | rfl | rfl | rfl
      · obtain ⟨cC, iS, hk⟩ := u_known (C := RX0) (T := TX0) (N := 7) hts inC_X0 (hts _ (CL_inst (RX0, TX0, 7, tyX0) (List.mem_of_getElem? (i := 0) rfl)))
        refine ⟨(cC, iS), fun q e => ?_⟩
        have e : some (RX0, TX0, 7) = some q := e
        cases e
        exact hk
      · obtain ⟨cC, iS, hk⟩ := u_known (C := RX1) (T := TX1) (N := 7) hts inC_X1 (hts _ (CL_inst (RX1, TX1, 7, tyX1) (List.mem_of_getElem? (i := 1) rfl)))
        refine ⟨(cC, iS), fun q e => ?_⟩
        have e : some (RX1, TX1, 7) = some q := e
        cases e
        exact hk
      · obtain ⟨cC, iS, hk⟩ := u_known (C := RX2) (T := TX2) (N := 3) hts inC_X2 (hts _ (CL_inst (RX2, TX2, 3, tyX2) (List.mem_of_getElem? (i := 2) rfl)))
        refine ⟨(cC, iS), fun q e => ?_⟩
        have e : some (RX2, TX2, 3) = some q := e
        cases e
        exact hk
      · obtain ⟨cC, iS, hk⟩ := u_known (C := RX3) (T := TX3) (N := 9) hts inC_X3 (hts _ (CL_inst (RX3, TX3, 9, tyX3) (List.mem_of_getElem? (i := 3) rfl)))
        refine ⟨(cC, iS), fun q e => ?_⟩
        have e : some (RX3, TX3, 9) = some q := e
        cases e
        exact hk
      · obtain ⟨cC, iS, hk⟩ := u_known (C := RX4) (T := TX4) (N := 16) hts inC_X4 (hts _ (CL_inst (RX4, TX4, 16, tyX4) (List.mem_of_getElem? (i := 4) rfl)))
        refine ⟨(cC, iS), fun q e => ?_⟩
        have e : some (RX4, TX4, 16) = some q := e
        cases e
        exact hk
      · obtain ⟨cC, iS, hk⟩ := u_known (C := RX5) (T := TX5) (N := 14) hts inC_X5 (hts _ (CL_inst (RX5, TX5, 14, tyX5) (List.mem_of_getElem? (i := 5) rfl)))
        refine ⟨(cC, iS), fun q e => ?_⟩
        have e : some (RX5, TX5, 14) = some q := e
        cases e
        exact hk
      · obtain ⟨cC, iS, hk⟩ := u_known (C := RX6) (T := TX6) (N := 6) hts inC_X6 (hts _ (CL_inst (RX6, TX6, 6, tyX6) (List.mem_of_getElem? (i := 6) rfl)))
        refine ⟨(cC, iS), fun q e => ?_⟩
        have e : some (RX6, TX6, 6) = some q := e
        cases e
        exact hk
      · obtain ⟨cC, iS, hk⟩ := u_known (C := RX8) (T := TX8) (N := 15) hts inC_X8 (hts _ (CL_inst (RX8, TX8, 15, tyX8) (List.mem_of_getElem? (i := 7) rfl)))
        refine ⟨(cC, iS), fun q e => ?_⟩
        have e : some (RX8, TX8, 15) = some q := e
        cases e
        exact hk
      · obtain ⟨cC, iS, hk⟩ := u_known (C := RX9) (T := TX9) (N := 27) hts inC_X9 (hts _ (CL_inst (RX9, TX9, 27, tyX9) (List.mem_of_getElem? (i := 8) rfl)))
        refine ⟨(cC, iS), fun q e => ?_⟩
        have e : some (RX9, TX9, 27) = some q := e
        cases e
        exact hk
      · obtain ⟨cC, iS, hk⟩ := u_known (C := RJ0) (T := TJ0) (N := 4) hts inC_J0 (hts _ (CL_inst (RJ0, TJ0, 4, tyJ0) (List.mem_of_getElem? (i := 9) rfl)))
        refine ⟨(cC, iS), fun q e => ?_⟩
        have e : some (RJ0, TJ0, 4) = some q := e
        cases e
        exact hk
      · obtain ⟨cC, iS, hk⟩ := u_known (C := RJ4) (T := TJ4) (N := 4) hts inC_J4 (hts _ (CL_inst (RJ4, TJ4, 4, tyJ4) (List.mem_of_getElem? (i := 10) rfl)))
        refine ⟨(cC, iS), fun q e => ?_⟩
        have e : some (RJ4, TJ4, 4) = some q := e
        cases e
        exact hk
    · refine ⟨(0, fun _ => 0), fun q e => ?_⟩
      have hl : classes.length = 11 := rfl
      rw [List.getElem?_eq_none (by omega)] at e
      cases e
  obtain ⟨f, hf⟩ := Classical.axiomOfChoice h
  exact ⟨(fun c => (f c).1, fun c => (f c).2), fun c q e => hf c q e⟩
theorem z_tys (hts : ∀ w ∈ lw_tbl, w.before #[Value.ref b] s = true) : ∃ tC : FieldType → ClassId, ∀ (k : Nat) (q : ClassId × FieldType), [(tC .int, .int), (tC .byte, .byte), (tC .long, .long), (tC tyS, tyS)][k]? = some q → ArrOfT s q.1 q.2 ∧ va_RA s q.1 q.2 := by
  obtain ⟨c1, k1, m1, a1, b1, e1⟩ := Cond.arrayClass_spec (hts _ aC_int)
  obtain ⟨c2, k2, m2, a2, b2, e2⟩ := Cond.arrayClass_spec (hts _ aC_byte)
  obtain ⟨c3, k3, m3, a3, b3, e3⟩ := Cond.arrayClass_spec (hts _ aC_long)
  obtain ⟨comp, c4, k4, f1, -, f2, f3, f4⟩ := Cond.arrayOver_spec (hts _ zAO_in)
  refine ⟨fun t => match t with | .int => c1 | .byte => c2 | .long => c3 | _ => c4, fun k q hq => ?_⟩
  by_cases hk : k < 4
  · have : k = 0 ∨ k = 1 ∨ k = 2 ∨ k = 3 := by omega
    rcases this with rfl | rfl | rfl | rfl
    · have hq : some (c1, FieldType.int) = some q := hq
      cases hq
      exact ⟨fun n z => ⟨fun k h => (by cases h), k1, b1, m1, e1⟩, a1⟩
    · have hq : some (c2, FieldType.byte) = some q := hq
      cases hq
      exact ⟨fun n z => ⟨fun k h => (by cases h), k2, b2, m2, e2⟩, a2⟩
    · have hq : some (c3, FieldType.long) = some q := hq
      cases hq
      exact ⟨fun n z => ⟨fun k h => (by cases h), k3, b3, m3, e3⟩, a3⟩
    · have hq : some (c4, tyS) = some q := hq
      cases hq
      exact ⟨fun n z => ⟨fun k h => (by cases h), k4, f2, comp, f3⟩, k4, comp, f2, f3, f1, f4⟩
  · rw [List.getElem?_eq_none (by show 4 ≤ k; omega)] at hq
    cases hq
theorem z_A : ∀ a : Nat, a < s.heap.size → ¬ (fun q : Nat => s.heap.size ≤ q) a := fun a h1 h2 => Nat.not_lt.mpr h2 h1
theorem z_Ll : ∀ i : Fin 38, zLen.getD i.val 0 < 1000 := by decide
theorem z_one {hg : (Jvm.Cond.and given_1 narrow_1).before #[Value.ref b] s = true} {i : Nat} (hi : i < 38) : ∃ q : Nat × Nat, (zS i).eval #[Value.ref b] s none [] s = some (.ref q.1) ∧ va_O "java/lang/String" q.1 (fun q : Nat => s.heap.size ≤ q) s s.heap ∧ va_OF "java/lang/String" "coder" "B" (.int 0) q.1 (fun q : Nat => s.heap.size ≤ q) s s.heap ∧ va_OF "java/lang/String" "value" "[B" (.ref q.2) q.1 (fun q : Nat => s.heap.size ≤ q) s s.heap ∧ va_T .byte q.2 (zLen.getD i 0) (fun j => .int ((zByt.getD i []).getD j 0)) (fun q : Nat => s.heap.size ≤ q) s s.heap := by
  have ll : zLen.getD i 0 < 1000 := z_Ll ⟨i, hi⟩
  obtain ⟨adK, adV, hS, hev⟩ := vk_Sof (args := #[Value.ref b]) (s := s) (N := 1) (tm := fun _ => zS i) (len := [zLen.getD i 0]) (byt := [zByt.getD i []]) (A := fun q : Nat => s.heap.size ≤ q) (fun j hj => by
      obtain rfl : j = 0 := by omega
      show zLen.getD i 0 < 2 ^ 31
      omega) (fun j hj => zn_at hg (zn_S hi (List.mem_append_left _ (List.mem_of_getElem? (i := 0) rfl)))) (fun j hj => zn_at hg (zn_S hi (List.mem_append_left _ (List.mem_of_getElem? (i := 1) rfl)))) (fun j hj => zn_at hg (zn_S hi (List.mem_append_left _ (List.mem_of_getElem? (i := 2) rfl)))) (fun j hj => by
      obtain rfl : j = 0 := by omega
      exact zn_at hg (zn_S hi (List.mem_append_left _ (List.mem_of_getElem? (i := 3) rfl)))) (fun j hj k hk => by
      obtain rfl : j = 0 := by omega
      have hk : k < zLen.getD i 0 := hk
      exact zn_at hg (zn_S hi (List.mem_append_right _ (List.mem_map.mpr ⟨k, List.mem_range.mpr hk, rfl⟩)))) (fun j k hj hk hjk => absurd (show j = k by omega) hjk) z_A
  obtain ⟨h1, h2, h3, h4⟩ := hS.1 0 (by decide)
  exact ⟨(adK 0, adV 0), hev 0 (by decide), h1, h2, h3, h4⟩
theorem z_wrd (hg : (Jvm.Cond.and given_1 narrow_1).before #[Value.ref b] s = true) {i : Nat} (hi : i < 15) : ∃ a : Nat, (zW i).eval #[Value.ref b] s none [] s = some (.ref a) ∧ ∀ v, (zS (23 + i)).eval #[Value.ref b] s none [] s = some v → va_OF "FishGrader$Word" "text" "Ljava/lang/String;" v a (fun q : Nat => s.heap.size ≤ q) s s.heap := by
  obtain ⟨a, c, cell, k, q1, -⟩ := Cond.exactly_spec (args := #[Value.ref b]) (first := s) (o := none) (s := s) (idx := []) (t := zW i) (cls := "FishGrader$Word") (zn_at hg (zn_W hi (List.mem_of_getElem? (i := 0) rfl)))
  exact ⟨a, q1, fun v hv => vk_OFof q1 (va_eqv (zn_at hg (zn_W hi (List.mem_of_getElem? (i := 1) rfl))) hv) z_A⟩
theorem z_all (hg : (Jvm.Cond.and given_1 narrow_1).before #[Value.ref b] s = true) {f : Nat → Value} (hf : ∀ j, j < 15 → (zW j).eval #[Value.ref b] s none [] s = some (f j)) : ∃ t : Nat, zAl.eval #[Value.ref b] s none [] s = some (.ref t) ∧ va_T (.object "FishGrader$Word") t 15 f (fun q : Nat => s.heap.size ≤ q) s s.heap :=
  va_Tof (by decide) (zn_at hg (zn_al (List.mem_append_left _ (List.mem_of_getElem? (i := 0) rfl)))) (va_eqt (zn_at hg (zn_al (List.mem_append_left _ (List.mem_of_getElem? (i := 1) rfl))))) (fun j hj => va_eqv (zn_at hg (zn_al (List.mem_append_right _ (List.mem_map.mpr ⟨j, List.mem_range.mpr hj, rfl⟩)))) (hf j hj)) z_A
theorem z_dg1 (hg : (Jvm.Cond.and given_1 narrow_1).before #[Value.ref b] s = true) : ∃ t : Nat, (zD "DigitOnes").eval #[Value.ref b] s none [] s = some (.ref t) ∧ va_T .byte t 100 (fun j => .int (Int32.ofNat (48 + j % 10))) (fun q : Nat => s.heap.size ≤ q) s s.heap :=
  va_Tof (by decide) (zn_at hg (zn_d1 (List.mem_append_left _ (List.mem_of_getElem? (i := 0) rfl)))) (va_eqt (zn_at hg (zn_d1 (List.mem_append_left _ (List.mem_of_getElem? (i := 1) rfl))))) (fun j hj => va_eqt (zn_at hg (zn_d1 (List.mem_append_right _ (List.mem_map.mpr ⟨j, List.mem_range.mpr hj, rfl⟩))))) z_A
theorem z_dg2 (hg : (Jvm.Cond.and given_1 narrow_1).before #[Value.ref b] s = true) : ∃ t : Nat, (zD "DigitTens").eval #[Value.ref b] s none [] s = some (.ref t) ∧ va_T .byte t 100 (fun j => .int (Int32.ofNat (48 + j / 10))) (fun q : Nat => s.heap.size ≤ q) s s.heap :=
  va_Tof (by decide) (zn_at hg (zn_d2 (List.mem_append_left _ (List.mem_of_getElem? (i := 0) rfl)))) (va_eqt (zn_at hg (zn_d2 (List.mem_append_left _ (List.mem_of_getElem? (i := 1) rfl))))) (fun j hj => va_eqt (zn_at hg (zn_d2 (List.mem_append_right _ (List.mem_map.mpr ⟨j, List.mem_range.mpr hj, rfl⟩))))) z_A
theorem z_Tc {ty : FieldType} {t N : Nat} {f g : Nat → Value} {A : Nat → Prop} (h : va_T ty t N f A s s.heap) (e : ∀ j, j < N → g j = f j) : va_T ty t N g A s s.heap := by
  obtain ⟨cell, h1, h2, h3, h4, h5, h6, h7⟩ := h
  exact ⟨cell, h1, h2, h3, h4, h5, fun j hj => by rw [e j hj]; exact h6 j hj, h7⟩
theorem z_scr (hL : L ≤ 3072) (h : va_X b L xs s s.heap) : va_T .int b L (fun j => .int (xs j)) (fun q : Nat => s.heap.size ≤ q) s s.heap := by
  obtain ⟨scr, h1, h2, h3, h4, h5⟩ := h
  exact ⟨scr, h1, h2, h3, Nat.le_of_eq h4.symm, by rw [h4], h5, z_A b (Array.getElem?_eq_some_iff.mp h1).1⟩
theorem z_k9 {i : Nat} (h : zKd L i = some (.inl 1009)) : ∃ j, j < 38 ∧ i = 2 * j := by
  rcases z_kd (L := L) i with ⟨c1, c2, e⟩ | ⟨-, -, e⟩ | ⟨-, -, e⟩ | ⟨-, e⟩ | ⟨-, e⟩ | ⟨-, e⟩ | ⟨-, e⟩
  · exact ⟨i / 2, by omega, by omega⟩
  · rw [e] at h; cases h
  · rw [e] at h
    exact absurd (Sum.inl.inj (Option.some.inj h)) (by decide)
  · rw [e] at h; cases h
  · rw [e] at h; cases h
  · rw [e] at h; cases h
  · rw [e] at h; cases h
theorem z_k11 {i : Nat} (h : zKd L i = some (.inl 1011)) : ∃ j, j < 15 ∧ i = 76 + j := by
  rcases z_kd (L := L) i with ⟨-, -, e⟩ | ⟨-, -, e⟩ | ⟨c1, c2, e⟩ | ⟨-, e⟩ | ⟨-, e⟩ | ⟨-, e⟩ | ⟨-, e⟩
  · rw [e] at h
    exact absurd (Sum.inl.inj (Option.some.inj h)) (by decide)
  · rw [e] at h; cases h
  · exact ⟨i - 76, by omega, by omega⟩
  · rw [e] at h; cases h
  · rw [e] at h; cases h
  · rw [e] at h; cases h
  · rw [e] at h; cases h
theorem z_kA {i n : Nat} {ty : FieldType} (h : zKd L i = some (.inr (.array ty, n))) : (∃ j, j < 38 ∧ i = 2 * j + 1 ∧ ty = .byte ∧ n = zLen.getD j 0) ∨ (i = 91 ∧ ty = .object "FishGrader$Word" ∧ n = 15) ∨ (i = 92 ∧ ty = .byte ∧ n = 100) ∨ (i = 93 ∧ ty = .byte ∧ n = 100) ∨ (i = 94 ∧ ty = .int ∧ n = L) := by
  rcases z_kd (L := L) i with ⟨-, -, e⟩ | ⟨c1, c2, e⟩ | ⟨-, -, e⟩ | ⟨c, e⟩ | ⟨c, e⟩ | ⟨c, e⟩ | ⟨-, e⟩ <;> rw [e] at h
  · cases h
  · injection h with h
    injection h with h
    injection h with h1 h2
    injection h1 with h1
    exact Or.inl ⟨i / 2, by omega, by omega, h1.symm, h2.symm⟩
  · cases h
  · injection h with h
    injection h with h
    injection h with h1 h2
    injection h1 with h1
    exact Or.inr (Or.inl ⟨c, h1.symm, h2.symm⟩)
  · injection h with h
    injection h with h
    injection h with h1 h2
    injection h1 with h1
    rcases c with c | c
    · exact Or.inr (Or.inr (Or.inl ⟨c, h1.symm, h2.symm⟩))
    · exact Or.inr (Or.inr (Or.inr (Or.inl ⟨c, h1.symm, h2.symm⟩)))
  · injection h with h
    injection h with h
    injection h with h1 h2
    injection h1 with h1
    exact Or.inr (Or.inr (Or.inr (Or.inr ⟨c, h1.symm, h2.symm⟩)))
  · cases h
theorem z_sp1 {y : MethodName} (hts : ∀ w ∈ lw_tbl, w.before #[Value.ref b] s = true) (hy : y.cls ≠ "java/lang/invoke/MethodHandle" ∧ y.cls ≠ "java/lang/invoke/VarHandle") (hc : y.cls = "java/lang/AbstractStringBuilder") (hpriv : (Cond.privateMethod y).before #[Value.ref b] s = true) (hinst : (Cond.instanceMethod y).before #[Value.ref b] s = true) : (Cond.selects "java/lang/StringBuilder" y y).before #[Value.ref b] s = true := by
  obtain ⟨c, r, m, q1, q2, q3, q4, kP, hkP, hkPi⟩ := Cond.selects_spec (hts _ zSel_in)
  obtain ⟨mk, methM, hnamed, hmethM, -, -⟩ := Cond.instanceMethod_spec hinst
  have hfound : s.methodFound? y.cls y.name y.desc = some mk := State.methodFound?_of_named hnamed hy
  have f1 := findClass_of_methodNamed q3
  have f2 := findClass_of_methodNamed hnamed
  rw [hc] at f2
  have hcls : mk.cls = m.cls := Option.some.inj (f2.symm.trans f1)
  have hkm : s.vm.classes[mk.cls]? = some kP := by rw [hcls]; exact hkP
  have hsel : selectMethod {} s.vm c mk = .method mk := selectMethod_private hmethM (Cond.privateMethod_at hpriv mk methM hnamed hmethM)
  simp only [Cond.before, Cond.holds, Cond.value, q1, hfound, hnamed, hsel, hkm]
  simp
  exact hkPi
theorem z_pr : ∀ e ∈ MIpr, e.1.cls = "java/lang/AbstractStringBuilder" ∧ e.2.2.2.2.2.1 = 0 := by decide +kernel
theorem z_prt {e : MIt} (h : e ∈ MIpr) : e ∈ MI.tail := by
  unfold MIpr at h
  obtain ⟨q, hq, rfl⟩ := List.mem_map.mp h
  obtain ⟨q1, q2⟩ := List.mem_filter.mp hq
  have q3 : MI[q.2]? = some q.1 := List.mem_zipIdx_iff_getElem?.mp q1
  have q4 : q.2 ≠ 0 := fun z => by
    rw [z] at q2
    exact absurd q2 (by decide)
  obtain ⟨k, hk⟩ : ∃ k, q.2 = k + 1 := ⟨q.2 - 1, by omega⟩
  rw [hk] at q3
  refine List.mem_of_getElem? (i := k) ?_
  rw [List.getElem?_tail]
  exact q3
theorem z_sels (hts : ∀ w ∈ lw_tbl, w.before #[Value.ref b] s = true) : ∀ e ∈ MIpr, (Cond.selects "java/lang/StringBuilder" e.1 e.1).before #[] s = true := fun e he => by
  obtain ⟨c1, c2⟩ := z_pr e he
  have h1 := hts _ (MI_priv e he)
  have h2 := hts _ (MI_kind e (z_prt he))
  unfold miK at h2
  rw [if_pos (Or.inl c2)] at h2
  exact va_any rfl (z_sp1 hts (by rw [c1]; decide) c1 h1 h2)
theorem z_np : ∀ i j : Fin 4, i ≠ j → (i.val, j.val) ∈ zNp := by decide
end ZST
theorem z_sx {b L : Nat} {xs : Nat → Int32} {s : State} (hL : L ≤ 3072) (hts : ∀ w ∈ lw_tbl, w.before #[Value.ref b] s = true) (hX : va_X b L xs s s.heap) (hg : (Jvm.Cond.and given_1 narrow_1).before #[Value.ref b] s = true) : ∃ G : Gx, G.2.2.1 = s.heap.size ∧ G.2.2.2.2 = zT L xs ∧ G.2.2.2.1 94 = b ∧ Sx G s := by
  obtain ⟨D, hD⟩ := z_cls hts
  obtain ⟨tC, hT⟩ := z_tys hts
  have h1 : ∀ i : Nat, ∃ q : Nat × Nat, i < 38 → (zS i).eval #[Value.ref b] s none [] s = some (.ref q.1) ∧ va_O "java/lang/String" q.1 (fun q : Nat => s.heap.size ≤ q) s s.heap ∧ va_OF "java/lang/String" "coder" "B" (.int 0) q.1 (fun q : Nat => s.heap.size ≤ q) s s.heap ∧ va_OF "java/lang/String" "value" "[B" (.ref q.2) q.1 (fun q : Nat => s.heap.size ≤ q) s s.heap ∧ va_T .byte q.2 (zLen.getD i 0) (fun j => .int ((zByt.getD i []).getD j 0)) (fun q : Nat => s.heap.size ≤ q) s s.heap := fun i => by
    by_cases hi : i < 38
    · obtain ⟨q, hq⟩ := z_one (hg := hg) hi
      exact ⟨q, fun _ => hq⟩
    · exact ⟨(0, 0), fun h => absurd h hi⟩
  obtain ⟨ad, had⟩ := Classical.axiomOfChoice h1
  have h2 : ∀ i : Nat, ∃ a : Nat, i < 15 → (zW i).eval #[Value.ref b] s none [] s = some (.ref a) ∧ ∀ v, (zS (23 + i)).eval #[Value.ref b] s none [] s = some v → va_OF "FishGrader$Word" "text" "Ljava/lang/String;" v a (fun q : Nat => s.heap.size ≤ q) s s.heap := fun i => by
    by_cases hi : i < 15
    · obtain ⟨q, hq⟩ := z_wrd hg hi
      exact ⟨q, fun _ => hq⟩
    · exact ⟨0, fun h => absurd h hi⟩
  obtain ⟨aw, haw⟩ := Classical.axiomOfChoice h2
  obtain ⟨tA, tA1, tA2⟩ := z_all hg (f := fun j => .ref (aw j)) (fun j hj => (haw j hj).1)
  obtain ⟨t1, t11, t12⟩ := z_dg1 hg
  obtain ⟨t2, t21, t22⟩ := z_dg2 hg
  obtain ⟨sa, hsa⟩ : ∃ sa : Nat → Nat, ∀ i, sa i = if i < 76 then (if i % 2 = 0 then (ad (i / 2)).1 else (ad (i / 2)).2) else if i < 91 then aw (i - 76) else if i = 91 then tA else if i = 92 then t1 else if i = 93 then t2 else b := ⟨_, fun _ => rfl⟩
  have sK : ∀ j, j < 38 → sa (2 * j) = (ad j).1 := fun j hj => by
    rw [hsa, if_pos (by omega), if_pos (by omega), show 2 * j / 2 = j by omega]
  have sV : ∀ j, j < 38 → sa (2 * j + 1) = (ad j).2 := fun j hj => by
    rw [hsa, if_pos (by omega), if_neg (by omega), show (2 * j + 1) / 2 = j by omega]
  have sW : ∀ j, j < 15 → sa (76 + j) = aw j := fun j hj => by
    rw [hsa, if_neg (by omega), if_pos (by omega), show 76 + j - 76 = j by omega]
  have s91 : sa 91 = tA := by rw [hsa]; rfl
  have s92 : sa 92 = t1 := by rw [hsa]; rfl
  have s93 : sa 93 = t2 := by rw [hsa]; rfl
  have s94 : sa 94 = b := by rw [hsa]; rfl
  have lay : ∀ q ∈ zLs, (Cond.laysStatic q.1 q.2.1 q.2.2).before #[Value.ref b] s = true := fun q hq => hts _ (zLs_in q hq)
  have ini : ∀ C ∈ zIs, (Cond.initialized C).before #[Value.ref b] s = true := fun q hq => hts _ (zIs_in q hq)
  have zW1 : ∀ (j : Nat) (N : String), j < 15 → zWn.getD j "" = N → ("FishGrader$Word", N, "LFishGrader$Word;") ∈ zLs → va_Z "FishGrader$Word" N "LFishGrader$Word;" (.ref (sa (76 + j))) (fun q : Nat => s.heap.size ≤ q) s s.heap := fun j N hj hN hm => by
    subst hN
    rw [sW j hj]
    exact va_Zof (lay _ hm) (ini _ (by decide)) (haw j hj).1 z_A
  refine ⟨(D, tC, s.heap.size, sa, zT L xs), rfl, rfl, s94, z_wds hts, ⟨hD, hT⟩, ⟨fun i q hi hq hk => ?_, fun i hi hk => ?_, fun i ty n hi hk => ?_, fun e he => ?_, ?_, ⟨vx_Zqof (lay ("java/lang/Throwable", "UNASSIGNED_STACK", "[Ljava/lang/StackTraceElement;") (by decide)) (ini "java/lang/Throwable" (by decide)) (zn_at hg (zn_zc0 (List.mem_of_getElem? (i := 1) rfl))) z_A, vx_Zqof (lay ("java/lang/Throwable", "SUPPRESSED_SENTINEL", "Ljava/util/List;") (by decide)) (ini "java/lang/Throwable" (by decide)) (zn_at hg (zn_zc0 (List.mem_of_getElem? (i := 2) rfl))) z_A⟩, fun e he => ?_, fun i j hi hj hij => va_Nc.of (zn_at hg (zn_nc (List.mem_map.mpr ⟨(i, j), z_np ⟨i, hi⟩ ⟨j, hj⟩ (fun z => hij (Fin.mk.inj z)), rfl⟩))), va_Zqof (lay ("jdk/internal/util/Preconditions", "SIOOBE_FORMATTER", "Ljava/util/function/BiFunction;") (by decide)) (ini "jdk/internal/util/Preconditions" (by decide)) (zn_at hg (zn_i (List.mem_of_getElem? (i := 0) rfl))) z_A, va_AO.of (hts _ zAO_in), z_sels hts⟩, Nat.le_refl _⟩
  · have hk : zKd L i = some (.inl (q.1 + 1000)) := hk
    unfold sfld at hq
    rcases List.mem_cons.mp hq with rfl | hq
    · obtain ⟨j, hj, rfl⟩ := z_k9 hk
      have e : slotT (zT L xs) (2 * j) 0 (.array .byte) = .ref (2 * j + 1) := by
        show va_rf (zMr (2 * j) 0) = _
        unfold zMr
        rw [if_pos (by omega), if_pos ⟨by omega, rfl⟩]
        rfl
      show va_OF "java/lang/String" "value" "[B" (cv sa (slotT (zT L xs) (2 * j) 0 (.array .byte))) (sa (2 * j)) (fun q : Nat => s.heap.size ≤ q) s s.heap
      rw [e, sK j hj]
      show va_OF "java/lang/String" "value" "[B" (.ref (sa (2 * j + 1))) _ _ s s.heap
      rw [sV j hj]
      exact (had j hj).2.2.2.1
    · rcases List.mem_cons.mp hq with rfl | hq
      · obtain ⟨j, hj, rfl⟩ := z_k9 hk
        have e : slotT (zT L xs) (2 * j) 1 .byte = .int 0 := by
          show Value.int (zMi xs (2 * j) 1) = _
          unfold zMi
          rw [if_pos (by omega), if_pos (by omega)]
        show va_OF "java/lang/String" "coder" "B" (cv sa (slotT (zT L xs) (2 * j) 1 .byte)) (sa (2 * j)) (fun q : Nat => s.heap.size ≤ q) s s.heap
        rw [e, sK j hj]
        exact (had j hj).2.2.1
      · rcases List.mem_cons.mp hq with rfl | hq
        · obtain ⟨j, hj, rfl⟩ := z_k11 hk
          have e : slotT (zT L xs) (76 + j) 0 (.object "java/lang/String") = .ref (2 * (23 + j)) := by
            show va_rf (zMr (76 + j) 0) = _
            unfold zMr
            rw [if_neg (by omega), if_pos (by omega), if_pos rfl, show 46 + 2 * (76 + j - 76) = 2 * (23 + j) by omega]
            rfl
          show va_OF "FishGrader$Word" "text" "Ljava/lang/String;" (cv sa (slotT (zT L xs) (76 + j) 0 (.object "java/lang/String"))) (sa (76 + j)) (fun q : Nat => s.heap.size ≤ q) s s.heap
          rw [e, sW j hj]
          show va_OF "FishGrader$Word" "text" "Ljava/lang/String;" (.ref (sa (2 * (23 + j)))) _ _ s s.heap
          rw [sK (23 + j) (by omega)]
          exact (haw j hj).2 _ (had (23 + j) (by omega)).1
        · cases hq
  · obtain ⟨j, hj, rfl⟩ := z_k9 hk
    show va_O "java/lang/String" (sa (2 * j)) (fun q : Nat => s.heap.size ≤ q) s s.heap
    rw [sK j hj]
    exact (had j hj).2.1
  · rcases z_kA hk with ⟨j, hj, rfl, rfl, rfl⟩ | ⟨rfl, rfl, rfl⟩ | ⟨rfl, rfl, rfl⟩ | ⟨rfl, rfl, rfl⟩ | ⟨rfl, rfl, rfl⟩
    · show va_T .byte (sa (2 * j + 1)) (zLen.getD j 0) (elT sa (zT L xs) (2 * j + 1) .byte) (fun q : Nat => s.heap.size ≤ q) s s.heap
      rw [sV j hj]
      refine z_Tc (had j hj).2.2.2.2 (fun k hk => ?_)
      show Value.int (zMi xs (2 * j + 1) k) = _
      unfold zMi
      rw [if_pos (by omega), if_neg (by omega), show (2 * j + 1) / 2 = j by omega]
    · show va_T (.object "FishGrader$Word") (sa 91) 15 (elT sa (zT L xs) 91 (.object "FishGrader$Word")) (fun q : Nat => s.heap.size ≤ q) s s.heap
      rw [s91]
      refine z_Tc tA2 (fun k hk => ?_)
      show cv sa (va_rf (zMr 91 k)) = _
      unfold zMr
      rw [if_neg (by decide), if_neg (by decide), if_pos rfl, if_pos hk]
      show Value.ref (sa (76 + k)) = _
      rw [sW k hk]
    · show va_T .byte (sa 92) 100 (elT sa (zT L xs) 92 .byte) (fun q : Nat => s.heap.size ≤ q) s s.heap
      rw [s92]
      refine z_Tc t12 (fun k hk => ?_)
      show Value.int (zMi xs 92 k) = _
      unfold zMi
      rw [if_neg (by decide), if_pos rfl, if_pos hk]
    · show va_T .byte (sa 93) 100 (elT sa (zT L xs) 93 .byte) (fun q : Nat => s.heap.size ≤ q) s s.heap
      rw [s93]
      refine z_Tc t22 (fun k hk => ?_)
      show Value.int (zMi xs 93 k) = _
      unfold zMi
      rw [if_neg (by decide), if_neg (by decide), if_pos rfl, if_pos hk]
    · show va_T .int (sa 94) n (elT sa (zT n xs) 94 .int) (fun q : Nat => s.heap.size ≤ q) s s.heap
      rw [s94]
      refine z_Tc (z_scr hL hX) (fun k hk => ?_)
      show Value.int (zMi xs 94 k) = _
      rfl
  · obtain ⟨q1, q2, q3⟩ := zSR_ix e he
    show vk_R e.1 e.2.1 e.2.2.1 (sa e.2.2.2) s
    have h9 := (had _ q1).1
    rw [show e.2.2.2 = 2 * (e.2.2.2 / 2) by omega, sK _ q1]
    unfold zS at h9
    rw [q3] at h9
    exact vk_R.of (hts _ (zSR_in e he)) h9
  · show ∀ e ∈ sFld_0, va_Z e.1 e.2.1 e.2.2.1 (cv sa e.2.2.2) (fun q : Nat => s.heap.size ≤ q) s s.heap
    unfold sFld_0
    refine List.forall_mem_cons.mpr ⟨va_Zof (lay ("java/lang/String", "COMPACT_STRINGS", "Z") (by decide)) (ini "java/lang/String" (by decide)) (va_eqt (zn_at hg (zn_zc0 (List.mem_of_getElem? (i := 0) rfl)))) z_A, ?_⟩
    refine List.forall_mem_cons.mpr ⟨zW1 0 "GRADER" (by decide) rfl (by decide), ?_⟩
    refine List.forall_mem_cons.mpr ⟨zW1 1 "REFERENCE" (by decide) rfl (by decide), ?_⟩
    refine List.forall_mem_cons.mpr ⟨zW1 2 "MARGIN" (by decide) rfl (by decide), ?_⟩
    refine List.forall_mem_cons.mpr ⟨zW1 3 "LIMIT" (by decide) rfl (by decide), ?_⟩
    refine List.forall_mem_cons.mpr ⟨zW1 4 "POOL" (by decide) rfl (by decide), ?_⟩
    refine List.forall_mem_cons.mpr ⟨zW1 5 "ICE" (by decide) rfl (by decide), ?_⟩
    refine List.forall_mem_cons.mpr ⟨zW1 6 "STOP" (by decide) rfl (by decide), ?_⟩
    refine List.forall_mem_cons.mpr ⟨zW1 7 "SPECIES" (by decide) rfl (by decide), ?_⟩
    refine List.forall_mem_cons.mpr ⟨zW1 12 "ITEM" (by decide) rfl (by decide), ?_⟩
    refine List.forall_mem_cons.mpr ⟨by show va_Z "java/lang/Integer" "DigitOnes" "[B" (.ref (sa 92)) _ s s.heap; rw [s92]; exact va_Zof (lay ("java/lang/Integer", "DigitOnes", "[B") (by decide)) (ini "java/lang/Integer" (by decide)) t11 z_A, ?_⟩
    refine List.forall_mem_cons.mpr ⟨by show va_Z "java/lang/Integer" "DigitTens" "[B" (.ref (sa 93)) _ s s.heap; rw [s93]; exact va_Zof (lay ("java/lang/Integer", "DigitTens", "[B") (by decide)) (ini "java/lang/Integer" (by decide)) t21 z_A, ?_⟩
    refine List.forall_mem_cons.mpr ⟨zW1 8 "TARGET" (by decide) rfl (by decide), ?_⟩
    refine List.forall_mem_cons.mpr ⟨zW1 9 "QUOTA" (by decide) rfl (by decide), ?_⟩
    refine List.forall_mem_cons.mpr ⟨zW1 10 "BOXES" (by decide) rfl (by decide), ?_⟩
    refine List.forall_mem_cons.mpr ⟨zW1 11 "PRICE" (by decide) rfl (by decide), ?_⟩
    refine List.forall_mem_cons.mpr ⟨zW1 13 "AND" (by decide) rfl (by decide), ?_⟩
    refine List.forall_mem_cons.mpr ⟨zW1 14 "VOTE" (by decide) rfl (by decide), ?_⟩
    refine List.forall_mem_cons.mpr ⟨by show va_Z "FishGrader$Word" "ALL" "[LFishGrader$Word;" (.ref (sa 91)) _ s s.heap; rw [s91]; exact va_Zof (lay ("FishGrader$Word", "ALL", "[LFishGrader$Word;") (by decide)) (ini "FishGrader$Word" (by decide)) tA1 z_A, ?_⟩
    exact fun e he => (by cases he)
  · obtain ⟨q1, q2⟩ := zXR_ix e he
    have hx : (Cond.exactly (.string "FishGrader" e.2.2.1) "java/lang/String").before #[Value.ref b] s = true := by
      rcases q2 with q2 | q2
      · exact zn_at hg (zn_x (List.mem_map.mpr ⟨_, q2, rfl⟩))
      · rw [q2]
        exact zn_at hg (zn_x2 (List.mem_of_getElem? (i := 0) rfl))
    obtain ⟨a, c, cell, k, h9, -⟩ := Cond.exactly_spec (args := #[Value.ref b]) (first := s) (o := none) (s := s) (idx := []) hx
    refine ⟨a, ?_⟩
    have h8 := hts _ (zXR_in e he)
    rw [q1] at h8 ⊢
    exact vk_R.of h8 h9
