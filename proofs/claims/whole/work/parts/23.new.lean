-- ===== new rows, copies, numbers of the library, throws =====
section SNDN
variable {p : Program} {l : Launch} {e : Env} {R : Room} {s : State} {m : MethodId} {args : Array Value} {below : List Frame} {meth : Method} {c : Code} {H : Heap} {locs : List Loc} {cells slots : Nat} {Q : State → Prop} {G : Gx} {φ : Nat → Nat} {h : Mm} {q : MIt} {pc : Nat} {ls : Array Slot} {rest : List Value}
theorem acW (hW : WD s) (args : Array Value) : (Cond.arrayClass .int).before args s = true ∧ (Cond.arrayClass .byte).before args s = true ∧ (Cond.arrayClass .long).before args s = true := ⟨hW.use aC_int rfl args, hW.use aC_byte rfl args, hW.use aC_long rfl args⟩
theorem snd_newa (hx : p.tables.exec = Jvm.exec) (hb : c.code = q.bytes) (hSx : Sx G s) (hM : okM G.2.2.2.2 h) (hP : Wp G φ h H) (hS : va_S (Aq G) s.heap H locs) {at_ : ArrayType} {ty : FieldType} {n : Int32} (hty : newarray.typeOf at_ = ty) (h0 : ty = .int ∨ ty = .byte ∨ ty = .long) (hn : ¬ (n < 0 ∨ 100000 < n.toNatClampNeg)) (hc1 : cells + 1 ≤ R.cells) (hc2 : slots + n.toNatClampNeg ≤ R.slots) (hd : decode q.bytes pc = .ok (.newarray at_, 2))
    (kk : ∀ (z : Nat) (H1 : Heap), Wp G (zu φ h.sz z) (h.nw (some (.inr (ty, n.toNatClampNeg))) n.toNatClampNeg) H1 → va_S (Aq G) s.heap H1 locs → W p l e R s m args below meth c H1 locs (cells + 1) (slots + n.toNatClampNeg) Q (F0 m (pc + 2) ls (.ref z :: rest))) : W p l e R s m args below meth c H locs cells slots Q (F0 m pc ls (.int n :: rest)) := by
  have hn1 : ¬ n < 0 := fun z => hn (Or.inl z)
  have hn2 : n.toNatClampNeg ≤ 100000 := Nat.not_lt.mp fun z => hn (Or.inr z)
  obtain ⟨w1, w2, w3⟩ := acW hSx.1 args
  have hA : ∀ j : Nat, s.heap.size ≤ j → Aq G j := fun j hj => Nat.le_trans hSx.2.2.2 hj
  obtain ⟨r1, r2, r3⟩ := rowE_nw (h := h) (x := .inr (ty, n.toNatClampNeg)) (n := n.toNatClampNeg) (z := 0)
  rcases h0 with z | z | z
  · subst z
    refine va_newa (a0 := (n.toNatClampNeg, .inl (fun _ => 0))) hx hb (by rw [hty]; exact w1) hty hSx.2.1 hP.1 hP.2.1 hS hA (fun cA => rfl) hn1 rfl (by show n.toNatClampNeg * 4 ≤ _; omega) hc1 hc2 hd (fun z cA H1 z0 z1 z2 z3 => kk z H1 (Wp_nw hM hP ?_ z1 z2) z3)
    rw [entE_a kd_nw, tyG hSx.2.1 (Or.inl rfl) z0]
    show _ = Sum.inl (G.2.1 .int, n.toNatClampNeg, Sum.inl _)
    rw [r1]
  · subst z
    refine va_newa (a0 := (n.toNatClampNeg, .inl (fun _ => 0))) hx hb (by rw [hty]; exact w2) hty hSx.2.1 hP.1 hP.2.1 hS hA (fun cA => rfl) hn1 rfl (by show n.toNatClampNeg * 1 ≤ _; omega) hc1 hc2 hd (fun z cA H1 z0 z1 z2 z3 => kk z H1 (Wp_nw hM hP ?_ z1 z2) z3)
    rw [entE_a kd_nw, tyG hSx.2.1 (Or.inr (Or.inl rfl)) z0]
    show _ = Sum.inl (G.2.1 .byte, n.toNatClampNeg, Sum.inl _)
    rw [r1]
  · subst z
    refine va_newa (a0 := (n.toNatClampNeg, .inr (.inl (fun _ => 0)))) hx hb (by rw [hty]; exact w3) hty hSx.2.1 hP.1 hP.2.1 hS hA (fun cA => rfl) hn1 rfl (by show n.toNatClampNeg * 8 ≤ _; omega) hc1 hc2 hd (fun z cA H1 z0 z1 z2 z3 => kk z H1 (Wp_nw hM hP ?_ z1 z2) z3)
    rw [entE_a kd_nw, tyG hSx.2.1 (Or.inr (Or.inr rfl)) z0]
    show _ = Sum.inl (G.2.1 .long, n.toNatClampNeg, Sum.inr (Sum.inl _))
    rw [r2]
theorem tyGS (hK : va_K G.1 classes (tysG G) s) {cA : ClassId} (hk : va_K G.1 classes (tysG G ++ [(cA, tyS)]) s) : cA = G.2.1 tyS := by
  obtain ⟨-, -, -, -, -, h1⟩ := (hk.2 4 (cA, tyS) rfl).2
  obtain ⟨-, -, -, -, -, h2⟩ := (hK.2 3 (G.2.1 tyS, tyS) rfl).2
  exact Option.some.inj (h1.symm.trans h2)
theorem snd_newq (hx : p.tables.exec = Jvm.exec) (hb : c.code = q.bytes) (hown : s.vm.findClass q.own = some m.cls) (hSx : Sx G s) (hM : okM G.2.2.2.2 h) (hP : Wp G φ h H) (hS : va_S (Aq G) s.heap H locs) {ix w : Nat} {n : Int32} (hB : AR[w]? = some (q.own, ix)) (hn : ¬ (n < 0 ∨ 100000 < n.toNatClampNeg)) (hc1 : cells + 1 ≤ R.cells) (hc2 : slots + n.toNatClampNeg ≤ R.slots) (hd : decode q.bytes pc = .ok (.anewarray ix, 3))
    (kk : ∀ (z : Nat) (H1 : Heap), Wp G (zu φ h.sz z) (h.nw (some (.inr (tyS, n.toNatClampNeg))) n.toNatClampNeg) H1 → va_S (Aq G) s.heap H1 locs → W p l e R s m args below meth c H1 locs (cells + 1) (slots + n.toNatClampNeg) Q (F0 m (pc + 3) ls (.ref z :: rest))) : W p l e R s m args below meth c H locs cells slots Q (F0 m pc ls (.int n :: rest)) := by
  have hn1 : ¬ n < 0 := fun z => hn (Or.inl z)
  have hn2 : n.toNatClampNeg ≤ 100000 := Nat.not_lt.mp fun z => hn (Or.inr z)
  have hA : ∀ j : Nat, s.heap.size ≤ j → Aq G j := fun j hj => Nat.le_trans hSx.2.2.2 hj
  have hw := hSx.1.use (AR_in _ (List.mem_of_getElem? hB)) rfl args
  obtain ⟨r1, r2, r3⟩ := rowE_nw (h := h) (x := .inr (tyS, n.toNatClampNeg)) (n := n.toNatClampNeg) (z := 0)
  refine va_newq hx hb hown hw hSx.2.2.1.2.2.2.2.2.2.2.2.2.1 hSx.2.1 hP.1 hP.2.1 hS hA hn1 rfl (by omega) hc1 hc2 hd (fun z cA H1 z0 z1 z2 z3 => kk z H1 (Wp_nw hM hP ?_ z1 z2) z3)
  rw [entE_a kd_nw, tyGS hSx.2.1 z0]
  show _ = Sum.inl (G.2.1 tyS, n.toNatClampNeg, Sum.inr (Sum.inr (Sum.inr (Sum.inr _))))
  rw [r3]
  rfl
theorem snd_cpy (hT : stT G.2.2.2.2) (hTb : stB8 G.2.2.2.2) (hx : p.tables.exec = Jvm.exec) (hb : c.code = q.bytes) (hml : c.maxLocals = ls.size) (hown : s.vm.findClass q.own = some m.cls) (hSx : Sx G s) (hM : okM G.2.2.2.2 h) (hP : Wp G φ h H) (hS : va_S (Aq G) s.heap H locs) {ix w p0 p1 : Nat} {sp dp n : Int32} {h' : Mm} (hB : IR[w]? = some (q.own, ix, 4)) (hR1 : 1 ≤ R.frames) (hR2 : (rest.map fun v => v.category).sum + (nativeFrameWords "java/lang/System" "arraycopy" 5 + 11) ≤ R.locals) (hl : aCpy h p0 p1 sp dp n = some h') (hd : decode q.bytes pc = .ok (.invokestatic ix, 3))
    (kk : ∀ (H1 : Heap) (locs1 : List Loc), Wp G φ h' H1 → va_S (Aq G) s.heap H1 locs1 → W p l e R s m args below meth c H1 locs1 cells slots Q (F0 m (pc + 3) ls rest)) : W p l e R s m args below meth c H locs cells slots Q (F0 m pc ls (.int n :: .int dp :: .ref (φ p1) :: .int sp :: .ref (φ p0) :: rest)) := by
  have hw := hSx.1.use (IR_in _ (List.mem_of_getElem? hB)) rfl args
  have w1 := hSx.1.use aC_nat rfl args
  have w2 := hSx.1.use aC_st rfl args
  have w3 := hSx.1.use aC_sys rfl args
  unfold aCpy at hl
  split at hl
  · cases hl
  · rename_i n0 n1 hc
    split at hl
    · cases hl
    · rename_i hn
      cases hl
      simp only [not_or] at hn
      obtain ⟨g1, g2, g3, g4, g5⟩ := hn
      have g4 := Nat.not_lt.mp g4
      have g5 := Nat.not_lt.mp g5
      unfold cpyK at hc
      split at hc
      · rename_i k0 k1
        cases hc
        refine va_copyi hx hb hml hown hw w1 w2 w3 hSx.2.1 hP.1 hP.2.1 hS (p0 - nS) (p1 - nS) 0 0 (ty := .int) (wsM_arr hT hM (by intro t z; cases z) k0) (wsM_arr hT hM (by intro t z; cases z) k1) rfl rfl rfl g1 g2 g3 g4 g5 (fun _ _ => rfl) hR1 hR2 hd ?_
        rw [wsM_row (h' := h.sw p1 (va_cpy (h.mi p0) (h.mi p1) sp.toNatClampNeg dp.toNatClampNeg n.toNatClampNeg)) hT hM (by intro t z; cases z) k1 rfl rfl (fun j hj => ⟨by show zu h.mi p1 _ j = _; rw [zu, if_neg hj], rfl, rfl⟩) (congrArg Sum.inl (by show zu h.mi p1 _ p1 = _; rw [zu, if_pos rfl]))]
        exact fun H1 locs1 z1 z2 z3 => kk H1 locs1 ⟨z1, z2, hP.2.2⟩ z3
      · rename_i k0 k1
        cases hc
        refine va_copyi hx hb hml hown hw w1 w2 w3 hSx.2.1 hP.1 hP.2.1 hS (p0 - nS) (p1 - nS) 1 1 (ty := .byte) (wsM_arr hT hM (by intro t z; cases z) k0) (wsM_arr hT hM (by intro t z; cases z) k1) rfl rfl rfl g1 g2 g3 g4 g5 (fun i _ => hM.2.2.2.2.1 _ _ k0 _) hR1 hR2 hd ?_
        rw [wsM_row (h' := h.sw p1 (va_cpy (h.mi p0) (h.mi p1) sp.toNatClampNeg dp.toNatClampNeg n.toNatClampNeg)) hT hM (by intro t z; cases z) k1 rfl rfl (fun j hj => ⟨by show zu h.mi p1 _ j = _; rw [zu, if_neg hj], rfl, rfl⟩) (congrArg Sum.inl (by show zu h.mi p1 _ p1 = _; rw [zu, if_pos rfl]))]
        exact fun H1 locs1 z1 z2 z3 => kk H1 locs1 ⟨z1, z2, hP.2.2⟩ z3
      · rename_i k0 k1
        cases hc
        have hp := hM.stA k0
        have ht := hSx.2.2.1.2.2.1 p0 _ _ hp ((hM.2.2.1 p0 hp).1 ▸ k0)
        have hf : (elT G.2.2.2.1 G.2.2.2.2 p0 .byte) = fun j => .int (h.mi p0 j) := funext fun j => elT_int hM hp (by intro n z; cases z)
        rw [← hP.2.2 p0 hp, hf] at ht
        refine vk_copyt hx hb hml hown hw w1 w2 w3 hSx.2.1 hP.1 hP.2.1 hS ht (p1 - nS) 1 (wsM_arr hT hM (by intro t z; cases z) k1) rfl g1 g2 g3 g4 g5 (fun i _ => ?_) hR1 hR2 hd ?_
        · rw [(hM.2.2.1 p0 hp).2.1]
          exact hTb p0 _ hp ((hM.2.2.1 p0 hp).1 ▸ k0) _
        · rw [wsM_row (h' := h.sw p1 (va_cpy (h.mi p0) (h.mi p1) sp.toNatClampNeg dp.toNatClampNeg n.toNatClampNeg)) hT hM (by intro t z; cases z) k1 rfl rfl (fun j hj => ⟨by show zu h.mi p1 _ j = _; rw [zu, if_neg hj], rfl, rfl⟩) (congrArg Sum.inl (by show zu h.mi p1 _ p1 = _; rw [zu, if_pos rfl]))]
          exact fun H1 locs1 z1 z2 z3 => kk H1 locs1 ⟨z1, z2, hP.2.2⟩ z3
      · cases hc
theorem ldcSW {cc : ByteArray} (hexec : p.tables.exec = Jvm.exec) (hb : c.code = cc) {own tx : String} {index z : Nat} (hown : s.vm.findClass own = some m.cls) (hZ : vk_R own index tx z s) (hdg : decode cc pc = .ok (.ldc_w index, 3))
    (k : W p l e R s m args below meth c H locs cells slots Q (F0 m (pc + 3) ls (.ref z :: rest))) : W p l e R s m args below meth c H locs cells slots Q (F0 m pc ls rest) := by
  intro T hT X
  obtain ⟨t, a1, b1⟩ := k T hT X
  exact ⟨t, X.ldcStringW hexec hown (text := tx) (a := z) hZ.1 hZ.2 (g := F0 m pc ls rest) rfl (by rw [hb]; exact hdg) t a1, b1⟩
theorem snd_ldc (hx : p.tables.exec = Jvm.exec) (hb : c.code = q.bytes) (hown : s.vm.findClass q.own = some m.cls) (hSx : Sx G s) (hP : Wp G φ h H) (hN : ∀ e ∈ SR, e.2.2.2 < nS) {ix w b : Nat} {v : Value} {ins : Instr} {ln : Nat} (hi : (ins = .ldc ix ∧ ln = 2) ∨ (ins = .ldc_w ix ∧ ln = 3)) (hB : ldcB q.own ix w b v = true) (hd : decode q.bytes pc = .ok (ins, ln))
    (kk : W p l e R s m args below meth c H locs cells slots Q (F0 m (pc + ln) ls (cv φ v :: rest))) : W p l e R s m args below meth c H locs cells slots Q (F0 m pc ls rest) := by
  unfold ldcB at hB
  split at hB
  · split at hB
    · rename_i k hk
      simp only [Bool.and_eq_true, decide_eq_true_eq] at hB
      obtain ⟨⟨h1, h2⟩, rfl⟩ := hB
      have hw := hSx.1.use (KR_in k (List.mem_of_getElem? hk)) rfl args
      unfold krW at hw
      rw [h1, h2] at hw
      rcases hi with ⟨rfl, rfl⟩ | ⟨rfl, rfl⟩
      · exact lv_ldc hx hb hown hw hd kk
      · exact lv_ldcw hx hb hown hw hd kk
    · cases hB
  · split at hB
    · rename_i k hk
      simp only [Bool.and_eq_true, decide_eq_true_eq] at hB
      obtain ⟨⟨h1, h2⟩, rfl⟩ := hB
      have hm := List.mem_of_getElem? hk
      have hw := hSx.2.2.1.2.2.2.1 k hm
      rw [h1, h2, ← hP.2.2 _ (hN k hm)] at hw
      rcases hi with ⟨rfl, rfl⟩ | ⟨rfl, rfl⟩
      · exact va_ldcS hx hb hown hw hd kk
      · exact ldcSW hx hb hown hw hd kk
    · cases hB
theorem snd_gs (hx : p.tables.exec = Jvm.exec) (hb : c.code = q.bytes) (hown : s.vm.findClass q.own = some m.cls) (hSx : Sx G s) (hP : Wp G φ h H) (hS : va_S (Aq G) s.heap H locs) (hN : ∀ e ∈ sFld, okV nS e.2.2.2) {ix w : Nat} {v : Value} (hB : gsB q.own ix w v = true) (hd : decode q.bytes pc = .ok (.getstatic ix, 3))
    (kk : W p l e R s m args below meth c H locs cells slots Q (F0 m (pc + 3) ls (cv φ v :: rest))) : W p l e R s m args below meth c H locs cells slots Q (F0 m pc ls rest) := by
  unfold gsB at hB
  split at hB
  · rename_i k hk
    simp only [Bool.and_eq_true, decide_eq_true_eq] at hB
    obtain ⟨⟨⟨h1, h2⟩, h3⟩, h4⟩ := hB
    have hw := hSx.1.use (GS_in k (List.mem_of_getElem? hk)) (useW_gs k) args
    have hz := hSx.2.2.1.2.2.2.2.1 _ h4
    dsimp only at hz
    have hcv : cv φ v = cv G.2.2.2.1 v := cv_ext hP.2.2 (hN _ h4)
    rw [← hcv] at hz
    unfold gsW at hw
    split at hw
    · rw [h1, h2] at hw
      exact va_gets hx hb hz hS hown hw (fun _ h => h) hd kk
    · rw [h1, h2] at hw
      exact va_getsN hx hb hz hS hown hw (fun _ h => h) hd kk
  · cases hB
end SNDN
