-- ===== one instruction is sound =====
def Bx (G : Gx) (y : Nat) (q : MIt) (p : Program) (R : Room) (s : State) (m : MethodId) (meth : Method) (c : Code) : Prop :=
  p.tables.exec = Jvm.exec ∧ c.code = q.bytes ∧ c.maxLocals = q.maxL ∧ s.vm.findClass q.own = some m.cls ∧ Sx G s ∧ meth.locks = false ∧ meth.sig.returnType = q.ret ∧ (q.kind = 2 → meth.name = "<init>") ∧ c.exceptionTable.toList = tableOf (hhOf y) ∧ 16 + q.lev ≤ R.frames ∧ 256 + 64 * q.lev ≤ R.locals
def Gd (G : Gx) (p : Program) (l : Launch) (e : Env) (R : Room) (s : State) (m : MethodId) (args : Array Value) (below : List Frame) (meth : Method) (c : Code) (Q : State → Prop) (nL c0 s0 z0 : Nat) (φ0 : Nat → Nat) (pc : Nat) (L : Lc) (st : List Value) (h : Mm) : Prop :=
  ∀ (φ : Nat → Nat) (H : Heap) (locs : List Loc) (ls : Array Slot), (∀ i, i < z0 → φ i = φ0 i) → Wp G φ h H → va_S (Aq G) s.heap H locs → lvR φ ls nL L → W p l e R s m args below meth c H locs (h.nc - c0) (h.ns - s0) Q (F0 m pc ls (st.map (cv φ)))
def retI (q : MIt) (v : Option Value) (ins : Instr) : Prop := match v with
  | none => ins = .return_ ∧ q.ret = none
  | some (.int x) => ins = .ireturn ∧ ∃ t, q.ret = some t ∧ fits t (.int x) = true
  | some (.long _) => ins = .lreturn ∧ q.ret = some .long
  | some (.ref _) => ins = .areturn ∧ ∃ t, q.ret = some t ∧ ((∃ n, t = .object n) ∨ ∃ t', t = .array t')
  | _ => False
def FIN (G : Gx) (p : Program) (l : Launch) (e : Env) (R : Room) (s : State) (m : MethodId) (args : Array Value) (below : List Frame) (meth : Method) (c : Code) (Q : State → Prop) (q : MIt) (c0 s0 z0 : Nat) (φ0 : Nat → Nat) (o : Out) (h' : Mm) : Prop := match o with
  | .inl v => ∀ (φ : Nat → Nat) (H : Heap) (locs : List Loc) (pc : Nat) (ls : Array Slot) (ins : Instr), (∀ i, i < z0 → φ i = φ0 i) → Wp G φ h' H → va_S (Aq G) s.heap H locs → decode q.bytes pc = .ok (ins, 1) → retI q v ins → W p l e R s m args below meth c H locs (h'.nc - c0) (h'.ns - s0) Q (F0 m pc ls (v.map (cv φ)).toList)
  | .inr E => ∃ (Qc : Array Value → State → Outcome → State → Prop) (XC : String → State → State → Prop) (mc ms : Nat) (free : Addr → Prop), Q = vx_MQ below Qc XC args s mc ms free ∧ h'.nc - c0 ≤ mc ∧ h'.ns - s0 ≤ ms ∧ (∀ z, Aq G z → free z) ∧ ∀ (φ : Nat → Nat) (t : State), (∀ i, i < z0 → φ i = φ0 i) → Wp G φ h' t.heap → va_F (Aq G) s t → XC E s t
def contE (G : Gx) (p : Program) (l : Launch) (e : Env) (R : Room) (s : State) (m : MethodId) (args : Array Value) (below : List Frame) (meth : Method) (c : Code) (Q : State → Prop) (y nL c0 s0 z0 : Nat) (φ0 : Nat → Nat) (nx : Nat) (oF : Out) (hF : Mm) (ef : Ef) : Prop := match ef with
  | .inl none => False
  | .inl (some (o, h')) => o = oF ∧ h' = hF
  | .inr (.inl (L, st, h')) => Gd G p l e R s m args below meth c Q nL c0 s0 z0 φ0 nx L st h' ∧ leM h' hF
  | .inr (.inr (.inl (pc, L, st, h'))) => Gd G p l e R s m args below meth c Q nL c0 s0 z0 φ0 pc L st h' ∧ leM h' hF
  | .inr (.inr (.inr (z, as, L, st, h'))) => ∃ (o2 : Out) (h2 : Mm), Ct l G z as h' o2 h2 ∧ leM h' h2 ∧ leM h2 hF ∧ okO h2.sz o2 ∧ (match o2 with
    | .inl (some v) => Gd G p l e R s m args below meth c Q nL c0 s0 z0 φ0 nx L (v :: st) h2
    | .inl none => Gd G p l e R s m args below meth c Q nL c0 s0 z0 φ0 nx L st h2
    | .inr E => (match hdOf y E with
      | some (pc', n) => Gd G p l e R s m args below meth c Q nL c0 s0 z0 φ0 pc' (catL L n) [] h2
      | none => oF = .inr E ∧ hF = h2))
theorem stI_nc {h h' : Mm} {pp : Nat} {i x : Int32} (e : stI h pp i x = some h') : h'.nc = h.nc ∧ h'.ns = h.ns ∧ h'.sz = h.sz := by
  unfold stI at e
  split at e
  · obtain ⟨k, -, rfl⟩ := Option.map_eq_some_iff.mp e; exact ⟨rfl, rfl, rfl⟩
  · cases e
theorem stB_nc {h h' : Mm} {pp : Nat} {i x : Int32} (e : stB h pp i x = some h') : h'.nc = h.nc ∧ h'.ns = h.ns ∧ h'.sz = h.sz := by
  unfold stB at e
  split at e
  · obtain ⟨k, -, rfl⟩ := Option.map_eq_some_iff.mp e; exact ⟨rfl, rfl, rfl⟩
  · cases e
theorem stJ_nc {h h' : Mm} {pp : Nat} {i : Int32} {x : Int64} (e : stJ h pp i x = some h') : h'.nc = h.nc ∧ h'.ns = h.ns ∧ h'.sz = h.sz := by
  unfold stJ at e
  split at e
  · obtain ⟨k, -, rfl⟩ := Option.map_eq_some_iff.mp e; exact ⟨rfl, rfl, rfl⟩
  · cases e
theorem stA_nc {h h' : Mm} {cn pp : Nat} {i : Int32} {x : Nat} (e : stA h cn pp i x = some h') : h'.nc = h.nc ∧ h'.ns = h.ns ∧ h'.sz = h.sz := by
  unfold stA at e
  split at e
  · split at e
    · obtain ⟨k, -, rfl⟩ := Option.map_eq_some_iff.mp e; exact ⟨rfl, rfl, rfl⟩
    · cases e
  · cases e
theorem aCpy_nc {h h' : Mm} {p0 p1 : Nat} {sp dp n : Int32} (e : aCpy h p0 p1 sp dp n = some h') : h'.nc = h.nc ∧ h'.ns = h.ns ∧ h'.sz = h.sz := by
  unfold aCpy at e
  split at e
  · cases e
  · split at e
    · cases e
    · cases e; exact ⟨rfl, rfl, rfl⟩
theorem Wp.grow {G : Gx} {φ : Nat → Nat} {h : Mm} {H H1 : Heap} (hP : Wp G φ h H) (hk : ∀ z : Nat, z < H.size → H1[z]? = H[z]?) : Wp G φ h H1 := ⟨hP.1.kept (fun k q hq => hk q.1 (hP.1 k q hq).lt), hP.2⟩
theorem cat1_cv {φ : Nat → Nat} {v : Value} (h : cat1 v = true) : (cv φ v).category = 1 := by
  rw [cv_cat]
  cases v <;> first | rfl | cases h
theorem snd_goC {G : Gx} {p : Program} {l : Launch} {e : Env} {R : Room} {s : State} {m : MethodId} {args : Array Value} {below : List Frame} {meth : Method} {c : Code} {Q : State → Prop} {y c0 s0 z0 : Nat} {φ0 : Nat → Nat} {q : MIt} {oF : Out} {hF : Mm}
    (hT : stT G.2.2.2.2) (hC : stC G.2.2.2.2) (hq : MI[y]? = some q) (hB : Bx G y q p R s m meth c) {pc : Nat} {L : Lc} {st as r : List Value} {h : Mm} (hM : okM G.2.2.2.2 h) (hL : okL h.sz L) (hSr : okS h.sz r) (hc0 : c0 ≤ h.nc) (hs0 : s0 ≤ h.ns) (hz0 : z0 ≤ h.sz) (hRc : hF.nc - c0 ≤ R.cells) (hRs : hF.ns - s0 ≤ R.slots) (hfin : FIN G p l e R s m args below meth c Q q c0 s0 z0 φ0 oF hF)
    {ix w a b : Nat} {v : Value} {ks : List Nat} {ins : Instr} (hcal : calB q ix w a b v ks = true) (hpop : popA b st [] = some (as, r)) (hr8 : catS r ≤ 8)
    (hi : (ins = .invokevirtual ix ∧ ks = [0, 1, 8]) ∨ (ins = .invokestatic ix ∧ ks = [2, 3, 7]) ∨ (ins = .invokespecial ix ∧ (ks = [4, 5] ∨ ks = [6]))) (hrecv : (ks = [0, 1, 8] ∨ ks = [6]) → ∃ cc pp as', v = .ref cc ∧ as = .ref pp :: as' ∧ (h.kd pp = some (.inl cc) ∨ h.kd pp = some (.inl (cc + 1000)))) (hinit : ks = [4, 5] → ∃ pp as', as = .ref pp :: as') (hd : decode q.bytes pc = .ok (ins, 3)) (hcov : (hhOf y).all (fun z => decide (z.1 ≤ pc) && decide (pc < z.2.1)) = true)
    (hc : contE G p l e R s m args below meth c Q y q.maxL c0 s0 z0 φ0 (pc + 3) oF hF (eC a as L r h)) : Gd G p l e R s m args below meth c Q q.maxL c0 s0 z0 φ0 pc L st h := by
  obtain ⟨hx, hb, hml, hown, hSx, hlk, hrt, hini, htab, hRf, hRl⟩ := hB
  intro φ H locs ls hex hP hS hl
  obtain ⟨o2, h2, hCt, hle1, hle2, hO2, hk⟩ := hc
  have n1 := hle1.2.1
  have n2 := hle1.2.2.1
  have n3 := hle2.2.1
  have n4 := hle2.2.2.1
  have e1 : h2.nc - c0 = h.nc - c0 + (h2.nc - h.nc) := by omega
  have e2 : h2.ns - s0 = h.ns - s0 + (h2.ns - h.ns) := by omega
  refine snd_ret (snd_cal hT hC hx hb hml hown hSx hM hP hS hl.1 hRf hRl hcal hpop hr8 hCt (by omega) (by omega) hi hrecv hinit hd) hS ?_ ?_
  · intro v' φ' H1 locs1 ho hext hP1 hS1
    subst ho
    have hex' : ∀ i, i < z0 → φ' i = φ0 i := fun i hi => by rw [hext i (by omega)]; exact hex i hi
    cases v' with
    | none =>
      have := hk φ' H1 locs1 ls hex' hP1 hS1 (hl.ext hL hext)
      rw [e1, e2, cvS_ext hext hSr] at this
      exact this
    | some v' =>
      have := hk φ' H1 locs1 ls hex' hP1 hS1 (hl.ext hL hext)
      rw [e1, e2, List.map_cons, cvS_ext hext hSr] at this
      exact this
  · intro E ce zz φ' H1 locs1 ho hext hP1 hS1 hcell hv hcl
    subst ho
    have hex' : ∀ i, i < z0 → φ' i = φ0 i := fun i hi => by rw [hext i (by omega)]; exact hex i hi
    obtain ⟨a', ha4, rfl⟩ := hO2.2 E rfl
    dsimp only at hk
    split at hk
    · rename_i pc' n hd'
      refine snd_catch hq hx hb hown hSx htab hcov (hl.ext hL hext) ha4 hd' hcell hv hcl (fun ls' hl' => ?_)
      have := hk φ' H1 locs1 ls' hex' hP1 hS1 hl'
      rw [e1, e2] at this
      exact this
    · rename_i hd'
      obtain ⟨rfl, rfl⟩ := hk
      obtain ⟨Qc, XC, mc, ms, free, rfl, m1, m2, m3, m4⟩ := hfin
      refine snd_uncaught hq hown hSx hlk htab ha4 hd' hcell hv hcl (fun t ht _ => ?_) (fun z hz => m3 _ (hS1.2.2 z hz)) (by omega) (by omega)
      exact m4 φ' t hex' (by rw [ht]; exact hP1) (hS1.F ht)
set_option maxHeartbeats 16000000 in
set_option maxRecDepth 20000 in
theorem snd_ins {G : Gx} {p : Program} {l : Launch} {e : Env} {R : Room} {s : State} {m : MethodId} {args : Array Value} {below : List Frame} {meth : Method} {c : Code} {Q : State → Prop} {y c0 s0 z0 : Nat} {φ0 : Nat → Nat} {q : MIt} {oF : Out} {hF : Mm}
    (hT : stT G.2.2.2.2) (hC : stC G.2.2.2.2) (hTb : stB8 G.2.2.2.2) (hl3 : l.stackTraces = false) (h3 : Thr3 l G) (hN1 : ∀ e ∈ SR, e.2.2.2 < nS) (hN2 : ∀ e ∈ sFld, okV nS e.2.2.2) (hq : MI[y]? = some q) (hB : Bx G y q p R s m meth c) {r : Rw} {pc : Nat} (hrow : rowB q pc r = true) (hcov : covR y pc r = true) {L : Lc} {st : List Value} {h : Mm} (hM : okM G.2.2.2.2 h) (hL : okL h.sz L) (hSt : okS h.sz st) (hc0 : c0 ≤ h.nc) (hs0 : s0 ≤ h.ns) (hz0 : z0 ≤ h.sz) (hRc : hF.nc - c0 ≤ R.cells) (hRs : hF.ns - s0 ≤ R.slots) (hhF : leM h hF) (hfin : FIN G p l e R s m args below meth c Q q c0 s0 z0 φ0 oF hF)
    (hc : contE G p l e R s m args below meth c Q y q.maxL c0 s0 z0 φ0 r.2.1 oF hF (eff q.ret r L st h)) : Gd G p l e R s m args below meth c Q q.maxL c0 s0 z0 φ0 pc L st h := by
  obtain ⟨hx, hb, hml, hown, hSx, hlk, hrt, hini, htab, hRf, hRl⟩ := hB
  obtain ⟨ins, nx, a, b, v, ty, w⟩ := r
  unfold rowB at hrow
  rw [Bool.and_eq_true] at hrow
  obtain ⟨hd, ha⟩ := hrow
  replace hd := of_decide_eq_true hd
  dsimp only at hd hc
  have hcs : h.nc - c0 ≤ R.cells := by have := hhF.2.1; omega
  have hss : h.ns - s0 ≤ R.slots := by have := hhF.2.2.1; omega
  intro φ H locs ls hex hP hS hl
  have hsz : ls.size = q.maxL := hl.1
  have hmls : c.maxLocals = ls.size := hml.trans hsz.symm
  cases ins
  case iconst n =>
    simp only [annB, Bool.and_eq_true, decide_eq_true_eq] at ha
    obtain ⟨rfl, rfl⟩ := ha
    rw [Nat.add_sub_cancel_left] at hd
    exact lv_iconst hx hb hd rfl (hc.1 φ H locs ls hex hP hS hl)
  case bipush n =>
    simp only [annB, Bool.and_eq_true, decide_eq_true_eq] at ha
    obtain ⟨rfl, rfl⟩ := ha
    rw [Nat.add_sub_cancel_left] at hd
    exact lv_bipush hx hb hd rfl (hc.1 φ H locs ls hex hP hS hl)
  case sipush n =>
    simp only [annB, Bool.and_eq_true, decide_eq_true_eq] at ha
    obtain ⟨rfl, rfl⟩ := ha
    rw [Nat.add_sub_cancel_left] at hd
    exact lv_sipush hx hb hd rfl (hc.1 φ H locs ls hex hP hS hl)
  case lconst n =>
    simp only [annB, Bool.and_eq_true, decide_eq_true_eq] at ha
    obtain ⟨rfl, rfl⟩ := ha
    rw [Nat.add_sub_cancel_left] at hd
    exact lv_lconst hx hb hd rfl (hc.1 φ H locs ls hex hP hS hl)
  case ldc n =>
    simp only [annB, Bool.and_eq_true, decide_eq_true_eq] at ha
    obtain ⟨h1, rfl⟩ := ha
    rw [Nat.add_sub_cancel_left] at hd
    exact snd_ldc hx hb hown hSx hP hN1 (Or.inl ⟨rfl, rfl⟩) h1 hd (hc.1 φ H locs ls hex hP hS hl)
  case ldc_w n =>
    simp only [annB, Bool.and_eq_true, decide_eq_true_eq] at ha
    obtain ⟨h1, rfl⟩ := ha
    rw [Nat.add_sub_cancel_left] at hd
    exact snd_ldc hx hb hown hSx hP hN1 (Or.inr ⟨rfl, rfl⟩) h1 hd (hc.1 φ H locs ls hex hP hS hl)
  case ldc2_w n =>
    simp only [annB, Bool.and_eq_true, decide_eq_true_eq] at ha
    obtain ⟨h1, rfl⟩ := ha
    rw [Nat.add_sub_cancel_left] at hd
    unfold ldc2B at h1
    split at h1
    · rename_i k hk
      simp only [Bool.and_eq_true, decide_eq_true_eq] at h1
      obtain ⟨⟨g1, g2⟩, rfl⟩ := h1
      have hw := hSx.1.use (KL_in k (List.mem_of_getElem? hk)) rfl args
      unfold klW at hw
      rw [g1, g2] at hw
      exact lv_ldc2 hx hb hown hw hd (hc.1 φ H locs ls hex hP hS hl)
    · cases h1
  case getstatic n =>
    simp only [annB, Bool.and_eq_true, decide_eq_true_eq] at ha
    obtain ⟨h1, rfl⟩ := ha
    rw [Nat.add_sub_cancel_left] at hd
    exact snd_gs hx hb hown hSx hP hS hN2 h1 hd (hc.1 φ H locs ls hex hP hS hl)
  case aconst_null =>
    simp only [annB, Bool.and_eq_true, decide_eq_true_eq] at ha
    subst ha
    rw [Nat.add_sub_cancel_left] at hd
    exact lv_null hx hb hd (hc.1 φ H locs ls hex hP hS hl)
  case iload n =>
    simp only [annB, Bool.and_eq_true, decide_eq_true_eq] at ha
    obtain ⟨rfl, rfl⟩ := ha
    rw [Nat.add_sub_cancel_left] at hd
    dsimp only [eff] at hc
    split at hc
    · rename_i x hg
      exact lv_iload hx hb hd (hl.get hg) (hc.1 φ H locs ls hex hP hS hl)
    · exact hc.elim
  case lload n =>
    simp only [annB, Bool.and_eq_true, decide_eq_true_eq] at ha
    obtain ⟨rfl, rfl⟩ := ha
    rw [Nat.add_sub_cancel_left] at hd
    dsimp only [eff] at hc
    split at hc
    · rename_i x hg
      exact lv_lload hx hb hd (hl.get hg) (hc.1 φ H locs ls hex hP hS hl)
    · exact hc.elim
  case aload n =>
    simp only [annB, Bool.and_eq_true, decide_eq_true_eq] at ha
    obtain ⟨rfl, rfl⟩ := ha
    rw [Nat.add_sub_cancel_left] at hd
    dsimp only [eff] at hc
    split at hc
    · rename_i x hg
      exact lv_aload hx hb hd (hl.get hg) (hc.1 φ H locs ls hex hP hS hl)
    · rename_i hg
      exact lv_aloadN hx hb hd (hl.get hg) (hc.1 φ H locs ls hex hP hS hl)
    · exact hc.elim
  case iload_n n =>
    simp only [annB, Bool.and_eq_true, decide_eq_true_eq] at ha
    obtain ⟨rfl, rfl⟩ := ha
    rw [Nat.add_sub_cancel_left] at hd
    dsimp only [eff] at hc
    split at hc
    · rename_i x hg
      exact lv_iload_n hx hb hd rfl (hl.get hg) (hc.1 φ H locs ls hex hP hS hl)
    · exact hc.elim
  case lload_n n =>
    simp only [annB, Bool.and_eq_true, decide_eq_true_eq] at ha
    obtain ⟨rfl, rfl⟩ := ha
    rw [Nat.add_sub_cancel_left] at hd
    dsimp only [eff] at hc
    split at hc
    · rename_i x hg
      exact lv_lload_n hx hb hd rfl (hl.get hg) (hc.1 φ H locs ls hex hP hS hl)
    · exact hc.elim
  case aload_n n =>
    simp only [annB, Bool.and_eq_true, decide_eq_true_eq] at ha
    obtain ⟨rfl, rfl⟩ := ha
    rw [Nat.add_sub_cancel_left] at hd
    dsimp only [eff] at hc
    split at hc
    · rename_i x hg
      exact lv_aload_n hx hb hd rfl (hl.get hg) (hc.1 φ H locs ls hex hP hS hl)
    · rename_i hg
      exact lv_aload_nN hx hb hd rfl (hl.get hg) (hc.1 φ H locs ls hex hP hS hl)
    · exact hc.elim
  case istore n =>
    simp only [annB, Bool.and_eq_true, decide_eq_true_eq] at ha
    obtain ⟨⟨rfl, rfl⟩, h4⟩ := ha
    rw [Nat.add_sub_cancel_left] at hd
    dsimp only [eff] at hc
    split at hc
    · exact lv_istore hx hb hd hl h4 rfl (fun ls' hl' => hc.1 φ H locs ls' hex hP hS (lvR.set hl'))
    · exact hc.elim
  case lstore n =>
    simp only [annB, Bool.and_eq_true, decide_eq_true_eq] at ha
    obtain ⟨⟨rfl, rfl⟩, h4⟩ := ha
    rw [Nat.add_sub_cancel_left] at hd
    dsimp only [eff] at hc
    split at hc
    · exact lv_lstore hx hb hd hl h4 rfl (fun ls' hl' => hc.1 φ H locs ls' hex hP hS (lvR.set2 hl'))
    · exact hc.elim
  case astore n =>
    simp only [annB, Bool.and_eq_true, decide_eq_true_eq] at ha
    obtain ⟨⟨rfl, rfl⟩, h4⟩ := ha
    rw [Nat.add_sub_cancel_left] at hd
    dsimp only [eff] at hc
    split at hc
    · exact lv_astore hx hb hd hl h4 rfl (fun ls' hl' => hc.1 φ H locs ls' hex hP hS (lvR.set hl'))
    · exact lv_astoreN hx hb hd hl h4 rfl (fun ls' hl' => hc.1 φ H locs ls' hex hP hS (lvR.set hl'))
    · exact hc.elim
  case istore_n n =>
    simp only [annB, Bool.and_eq_true, decide_eq_true_eq] at ha
    obtain ⟨⟨rfl, rfl⟩, h4⟩ := ha
    rw [Nat.add_sub_cancel_left] at hd
    dsimp only [eff] at hc
    split at hc
    · exact lv_istore_n hx hb hd rfl hl h4 rfl (fun ls' hl' => hc.1 φ H locs ls' hex hP hS (lvR.set hl'))
    · exact hc.elim
  case lstore_n n =>
    simp only [annB, Bool.and_eq_true, decide_eq_true_eq] at ha
    obtain ⟨⟨rfl, rfl⟩, h4⟩ := ha
    rw [Nat.add_sub_cancel_left] at hd
    dsimp only [eff] at hc
    split at hc
    · exact lv_lstore_n hx hb hd rfl hl h4 rfl (fun ls' hl' => hc.1 φ H locs ls' hex hP hS (lvR.set2 hl'))
    · exact hc.elim
  case astore_n n =>
    simp only [annB, Bool.and_eq_true, decide_eq_true_eq] at ha
    obtain ⟨⟨rfl, rfl⟩, h4⟩ := ha
    rw [Nat.add_sub_cancel_left] at hd
    dsimp only [eff] at hc
    split at hc
    · exact lv_astore_n hx hb hd rfl hl h4 rfl (fun ls' hl' => hc.1 φ H locs ls' hex hP hS (lvR.set hl'))
    · exact lv_astore_nN hx hb hd rfl hl h4 rfl (fun ls' hl' => hc.1 φ H locs ls' hex hP hS (lvR.set hl'))
    · exact hc.elim
  case iinc n i =>
    simp only [annB, Bool.and_eq_true, decide_eq_true_eq] at ha
    obtain ⟨⟨⟨rfl, rfl⟩, rfl⟩, h4⟩ := ha
    rw [Nat.add_sub_cancel_left] at hd
    dsimp only [eff] at hc
    split at hc
    · rename_i x y' hg hy
      cases hy
      obtain ⟨k, hk⟩ := List.getElem?_of_mem (mem_ascF.mpr ⟨a, .int x, rfl, hg⟩ : (0 + a, cv φ (.int x)) ∈ ascF φ 0 L)
      rw [Nat.zero_add] at hk
      exact lv_iinc hx hb hd hl hk rfl h4 rfl (fun ls' hl' => hc.1 φ H locs ls' hex hP hS (lvR.set hl'))
    · exact hc.elim
  case goto off =>
    simp only [annB, Bool.and_eq_true, decide_eq_true_eq] at ha
    obtain ⟨h1, rfl⟩ := ha
    rw [Nat.add_sub_cancel_left] at hd
    exact lv_goto hx hb hd h1 (hc.1 φ H locs ls hex hP hS hl)
  case ifCond cd off =>
    simp only [annB, Bool.and_eq_true, decide_eq_true_eq] at ha
    obtain ⟨h1, rfl⟩ := ha
    rw [Nat.add_sub_cancel_left] at hd
    dsimp only [eff] at hc
    split at hc
    · cases cd <;> (try dsimp only at hc) <;> split at hc
      all_goals rename_i hcd
      · exact lv_if_eq hx hb hd h1 (fun _ => hc.1 φ H locs ls hex hP hS hl) (fun z => absurd hcd z)
      · exact lv_if_eq hx hb hd h1 (fun z => absurd z hcd) (fun _ => hc.1 φ H locs ls hex hP hS hl)
      · exact lv_if_ne hx hb hd h1 (fun z => absurd hcd z) (fun _ => hc.1 φ H locs ls hex hP hS hl)
      · exact lv_if_ne hx hb hd h1 (fun _ => hc.1 φ H locs ls hex hP hS hl) (fun z => absurd z hcd)
      · exact lv_if_lt hx hb hd h1 (fun _ => hc.1 φ H locs ls hex hP hS hl) (fun z => absurd hcd z)
      · exact lv_if_lt hx hb hd h1 (fun z => absurd z hcd) (fun _ => hc.1 φ H locs ls hex hP hS hl)
      · exact lv_if_ge hx hb hd h1 (fun _ => hc.1 φ H locs ls hex hP hS hl) (fun z => absurd hcd z)
      · exact lv_if_ge hx hb hd h1 (fun z => absurd z hcd) (fun _ => hc.1 φ H locs ls hex hP hS hl)
      · exact lv_if_gt hx hb hd h1 (fun _ => hc.1 φ H locs ls hex hP hS hl) (fun z => absurd hcd z)
      · exact lv_if_gt hx hb hd h1 (fun z => absurd z hcd) (fun _ => hc.1 φ H locs ls hex hP hS hl)
      · exact lv_if_le hx hb hd h1 (fun _ => hc.1 φ H locs ls hex hP hS hl) (fun z => absurd hcd z)
      · exact lv_if_le hx hb hd h1 (fun z => absurd z hcd) (fun _ => hc.1 φ H locs ls hex hP hS hl)
    · exact hc.elim
  case if_icmp cd off =>
    simp only [annB, Bool.and_eq_true, decide_eq_true_eq] at ha
    obtain ⟨h1, rfl⟩ := ha
    rw [Nat.add_sub_cancel_left] at hd
    dsimp only [eff] at hc
    split at hc
    · cases cd <;> (try dsimp only at hc) <;> split at hc
      all_goals rename_i hcd
      · exact lv_icmp_eq hx hb hd h1 (fun _ => hc.1 φ H locs ls hex hP hS hl) (fun z => absurd hcd z)
      · exact lv_icmp_eq hx hb hd h1 (fun z => absurd z hcd) (fun _ => hc.1 φ H locs ls hex hP hS hl)
      · exact lv_icmp_ne hx hb hd h1 (fun z => absurd hcd z) (fun _ => hc.1 φ H locs ls hex hP hS hl)
      · exact lv_icmp_ne hx hb hd h1 (fun _ => hc.1 φ H locs ls hex hP hS hl) (fun z => absurd z hcd)
      · exact lv_icmp_lt hx hb hd h1 (fun _ => hc.1 φ H locs ls hex hP hS hl) (fun z => absurd hcd z)
      · exact lv_icmp_lt hx hb hd h1 (fun z => absurd z hcd) (fun _ => hc.1 φ H locs ls hex hP hS hl)
      · exact lv_icmp_ge hx hb hd h1 (fun _ => hc.1 φ H locs ls hex hP hS hl) (fun z => absurd hcd z)
      · exact lv_icmp_ge hx hb hd h1 (fun z => absurd z hcd) (fun _ => hc.1 φ H locs ls hex hP hS hl)
      · exact lv_icmp_gt hx hb hd h1 (fun _ => hc.1 φ H locs ls hex hP hS hl) (fun z => absurd hcd z)
      · exact lv_icmp_gt hx hb hd h1 (fun z => absurd z hcd) (fun _ => hc.1 φ H locs ls hex hP hS hl)
      · exact lv_icmp_le hx hb hd h1 (fun _ => hc.1 φ H locs ls hex hP hS hl) (fun z => absurd hcd z)
      · exact lv_icmp_le hx hb hd h1 (fun z => absurd z hcd) (fun _ => hc.1 φ H locs ls hex hP hS hl)
    · exact hc.elim
  case ifnull off =>
    simp only [annB, Bool.and_eq_true, decide_eq_true_eq] at ha
    obtain ⟨h1, rfl⟩ := ha
    rw [Nat.add_sub_cancel_left] at hd
    dsimp only [eff] at hc
    split at hc
    · exact lv_ifnull hx hb hd (hc.1 φ H locs ls hex hP hS hl)
    · exact lv_ifnullN hx hb hd h1 (hc.1 φ H locs ls hex hP hS hl)
    · exact hc.elim
  case ifnonnull off =>
    simp only [annB, Bool.and_eq_true, decide_eq_true_eq] at ha
    obtain ⟨h1, rfl⟩ := ha
    rw [Nat.add_sub_cancel_left] at hd
    dsimp only [eff] at hc
    split at hc
    · exact lv_ifnonnull hx hb hd h1 (hc.1 φ H locs ls hex hP hS hl)
    · exact lv_ifnonnullN hx hb hd (hc.1 φ H locs ls hex hP hS hl)
    · exact hc.elim
  case tableswitch d lo hi offs =>
    simp only [annB, Bool.and_eq_true, decide_eq_true_eq] at ha
    obtain ⟨⟨⟨rfl, h1⟩, h2⟩, h4⟩ := ha
    dsimp only [eff] at hc
    split at hc
    · rename_i x r
      have hk := hc.1 φ H locs ls hex hP hS hl
      unfold swT at hk
      split at hk
      · rename_i ho
        exact lv_tableOut hx hb hd ho (by omega) hk
      · rename_i ho
        have o1 : ¬ x.toInt < lo := fun z => ho (Or.inl z)
        have o2 : ¬ hi < x.toInt := fun z => ho (Or.inr z)
        have hlt : (x.toInt - lo).toNat < offs.size := by omega
        have hof : offs[(x.toInt - lo).toNat]? = some offs[(x.toInt - lo).toNat] := Array.getElem?_eq_getElem hlt
        simp only [hof] at hk
        have hge := List.all_eq_true.mp h2 offs[(x.toInt - lo).toNat] (by rw [Array.mem_toList_iff]; exact Array.getElem_mem hlt)
        have hge := of_decide_eq_true hge
        exact lv_tableIn hx hb hd o1 o2 hof (by omega) hk
    · exact hc.elim
  case getfield ix =>
    simp only [annB, Bool.and_eq_true, decide_eq_true_eq] at ha
    obtain ⟨h1, rfl⟩ := ha
    rw [Nat.add_sub_cancel_left] at hd
    dsimp only [eff] at hc
    split at hc
    · split at hc
      · rename_i hk
        exact snd_get hT hC hx hb hown hSx hM hP hS h1 hk hd (hc.1 φ H locs ls hex hP hS hl)
      · exact hc.elim
    · exact hc.elim
  case putfield ix =>
    simp only [annB, Bool.and_eq_true, decide_eq_true_eq] at ha
    obtain ⟨h1, rfl⟩ := ha
    rw [Nat.add_sub_cancel_left] at hd
    dsimp only [eff] at hc
    split at hc
    · rename_i x pp r
      split at hc
      · rename_i hk
        unfold oS at hc
        split at hc
        · rename_i h' hs
          refine snd_put hT hx hb hown hini hSx hM hP hS h1 hk hs hd (fun H1 locs1 hP1 hS1 => ?_)
          obtain ⟨-, n1, n2, -⟩ := setS_slot hs
          have := hc.1 φ H1 locs1 ls hex hP1 hS1 hl
          rw [n1, n2] at this
          exact this
        · exact hc.elim
      · exact hc.elim
    · exact hc.elim
  case iaload =>
    simp only [annB, Bool.and_eq_true, decide_eq_true_eq] at ha
    obtain ⟨rfl, -⟩ := ha
    rw [Nat.add_sub_cancel_left] at hd
    dsimp only [eff] at hc
    split at hc
    · split at hc
      · rename_i hk
        exact snd_iald hT hx hb hSx hM hP hS hk hd (hc.1 φ H locs ls hex hP hS hl)
      · exact hc.elim
    · exact hc.elim
  case baload =>
    simp only [annB, Bool.and_eq_true, decide_eq_true_eq] at ha
    obtain ⟨rfl, -⟩ := ha
    rw [Nat.add_sub_cancel_left] at hd
    dsimp only [eff] at hc
    split at hc
    · split at hc
      · rename_i hk
        exact snd_bald hT hx hb hSx hM hP hS hk hd (hc.1 φ H locs ls hex hP hS hl)
      · exact hc.elim
    · exact hc.elim
  case laload =>
    simp only [annB, Bool.and_eq_true, decide_eq_true_eq] at ha
    obtain ⟨rfl, -⟩ := ha
    rw [Nat.add_sub_cancel_left] at hd
    dsimp only [eff] at hc
    split at hc
    · split at hc
      · rename_i hk
        exact snd_lald hT hx hb hSx hM hP hk hd (hc.1 φ H locs ls hex hP hS hl)
      · exact hc.elim
    · exact hc.elim
  case aaload =>
    simp only [annB, Bool.and_eq_true, decide_eq_true_eq] at ha
    obtain ⟨rfl, -⟩ := ha
    rw [Nat.add_sub_cancel_left] at hd
    dsimp only [eff] at hc
    split at hc
    · split at hc
      · rename_i hk
        exact snd_aald hT hx hb hSx hM (hM.okA hT) hP hS hk hd (hc.1 φ H locs ls hex hP hS hl)
      · exact hc.elim
    · exact hc.elim
  case arraylength =>
    simp only [annB, Bool.and_eq_true, decide_eq_true_eq] at ha
    obtain ⟨rfl, -⟩ := ha
    rw [Nat.add_sub_cancel_left] at hd
    dsimp only [eff] at hc
    split at hc
    · split at hc
      · rename_i hk
        exact snd_alen hT hx hb hSx hM (hM.okA hT) hP hS (fun i ty n hi hk => (hM.2.2.2.2.2 i hi).2 ty n hk) hk hd (hc.1 φ H locs ls hex hP hS hl)
      · exact hc.elim
    · exact hc.elim
  case iastore =>
    simp only [annB, Bool.and_eq_true, decide_eq_true_eq] at ha
    obtain ⟨rfl, -⟩ := ha
    rw [Nat.add_sub_cancel_left] at hd
    dsimp only [eff] at hc
    split at hc
    · unfold oS at hc
      split at hc
      · rename_i h' hs
        refine snd_iast hT hx hb hSx hM hP hS hs hd (fun H1 locs1 hP1 hS1 => ?_)
        obtain ⟨n1, n2, -⟩ := stI_nc hs
        have := hc.1 φ H1 locs1 ls hex hP1 hS1 hl
        rw [n1, n2] at this
        exact this
      · exact hc.elim
    · exact hc.elim
  case bastore =>
    simp only [annB, Bool.and_eq_true, decide_eq_true_eq] at ha
    obtain ⟨rfl, -⟩ := ha
    rw [Nat.add_sub_cancel_left] at hd
    dsimp only [eff] at hc
    split at hc
    · unfold oS at hc
      split at hc
      · rename_i h' hs
        refine snd_bast hT hx hb hSx hM hP hS hs hd (fun H1 locs1 hP1 hS1 => ?_)
        obtain ⟨n1, n2, -⟩ := stB_nc hs
        have := hc.1 φ H1 locs1 ls hex hP1 hS1 hl
        rw [n1, n2] at this
        exact this
      · exact hc.elim
    · exact hc.elim
  case lastore =>
    simp only [annB, Bool.and_eq_true, decide_eq_true_eq] at ha
    obtain ⟨rfl, -⟩ := ha
    rw [Nat.add_sub_cancel_left] at hd
    dsimp only [eff] at hc
    split at hc
    · unfold oS at hc
      split at hc
      · rename_i h' hs
        refine snd_last hT hx hb hSx hM hP hS hs hd (fun H1 locs1 hP1 hS1 => ?_)
        obtain ⟨n1, n2, -⟩ := stJ_nc hs
        have := hc.1 φ H1 locs1 ls hex hP1 hS1 hl
        rw [n1, n2] at this
        exact this
      · exact hc.elim
    · exact hc.elim
  case aastore =>
    simp only [annB, Bool.and_eq_true, decide_eq_true_eq] at ha
    obtain ⟨rfl, rfl⟩ := ha
    rw [Nat.add_sub_cancel_left] at hd
    dsimp only [eff] at hc
    split at hc
    · unfold oS at hc
      split at hc
      · rename_i h' hs
        refine snd_aast hT hx hb hSx hM (hM.okA hT) hP hS hs hd (fun H1 locs1 hP1 hS1 => ?_)
        obtain ⟨n1, n2, -⟩ := stA_nc hs
        have := hc.1 φ H1 locs1 ls hex hP1 hS1 hl
        rw [n1, n2] at this
        exact this
      · exact hc.elim
    · exact hc.elim
  case iadd =>
    simp only [annB, Bool.and_eq_true, decide_eq_true_eq] at ha
    obtain ⟨rfl, -⟩ := ha
    rw [Nat.add_sub_cancel_left] at hd
    dsimp only [eff] at hc
    split at hc
    · exact lv_iadd hx hb hd (hc.1 φ H locs ls hex hP hS hl)
    · exact hc.elim
  case isub =>
    simp only [annB, Bool.and_eq_true, decide_eq_true_eq] at ha
    obtain ⟨rfl, -⟩ := ha
    rw [Nat.add_sub_cancel_left] at hd
    dsimp only [eff] at hc
    split at hc
    · exact lv_isub hx hb hd (hc.1 φ H locs ls hex hP hS hl)
    · exact hc.elim
  case imul =>
    simp only [annB, Bool.and_eq_true, decide_eq_true_eq] at ha
    obtain ⟨rfl, -⟩ := ha
    rw [Nat.add_sub_cancel_left] at hd
    dsimp only [eff] at hc
    split at hc
    · exact lv_imul hx hb hd (hc.1 φ H locs ls hex hP hS hl)
    · exact hc.elim
  case iand =>
    simp only [annB, Bool.and_eq_true, decide_eq_true_eq] at ha
    obtain ⟨rfl, -⟩ := ha
    rw [Nat.add_sub_cancel_left] at hd
    dsimp only [eff] at hc
    split at hc
    · exact lv_iand hx hb hd (hc.1 φ H locs ls hex hP hS hl)
    · exact hc.elim
  case ior =>
    simp only [annB, Bool.and_eq_true, decide_eq_true_eq] at ha
    obtain ⟨rfl, -⟩ := ha
    rw [Nat.add_sub_cancel_left] at hd
    dsimp only [eff] at hc
    split at hc
    · exact lv_ior hx hb hd (hc.1 φ H locs ls hex hP hS hl)
    · exact hc.elim
  case ixor =>
    simp only [annB, Bool.and_eq_true, decide_eq_true_eq] at ha
    obtain ⟨rfl, -⟩ := ha
    rw [Nat.add_sub_cancel_left] at hd
    dsimp only [eff] at hc
    split at hc
    · exact lv_ixor hx hb hd (hc.1 φ H locs ls hex hP hS hl)
    · exact hc.elim
  case ineg =>
    simp only [annB, Bool.and_eq_true, decide_eq_true_eq] at ha
    obtain ⟨rfl, -⟩ := ha
    rw [Nat.add_sub_cancel_left] at hd
    dsimp only [eff] at hc
    split at hc
    · exact lv_ineg hx hb hd (hc.1 φ H locs ls hex hP hS hl)
    · exact hc.elim
  case ishl =>
    simp only [annB, Bool.and_eq_true, decide_eq_true_eq] at ha
    obtain ⟨rfl, -⟩ := ha
    rw [Nat.add_sub_cancel_left] at hd
    dsimp only [eff] at hc
    split at hc
    · exact lv_ishl hx hb hd (hc.1 φ H locs ls hex hP hS hl)
    · exact hc.elim
  case ishr =>
    simp only [annB, Bool.and_eq_true, decide_eq_true_eq] at ha
    obtain ⟨rfl, -⟩ := ha
    rw [Nat.add_sub_cancel_left] at hd
    dsimp only [eff] at hc
    split at hc
    · exact lv_ishr hx hb hd (hc.1 φ H locs ls hex hP hS hl)
    · exact hc.elim
  case iushr =>
    simp only [annB, Bool.and_eq_true, decide_eq_true_eq] at ha
    obtain ⟨rfl, -⟩ := ha
    rw [Nat.add_sub_cancel_left] at hd
    dsimp only [eff] at hc
    split at hc
    · exact lv_iushr hx hb hd rfl (hc.1 φ H locs ls hex hP hS hl)
    · exact hc.elim
  case ladd =>
    simp only [annB, Bool.and_eq_true, decide_eq_true_eq] at ha
    obtain ⟨rfl, -⟩ := ha
    rw [Nat.add_sub_cancel_left] at hd
    dsimp only [eff] at hc
    split at hc
    · exact lv_ladd hx hb hd (hc.1 φ H locs ls hex hP hS hl)
    · exact hc.elim
  case lsub =>
    simp only [annB, Bool.and_eq_true, decide_eq_true_eq] at ha
    obtain ⟨rfl, -⟩ := ha
    rw [Nat.add_sub_cancel_left] at hd
    dsimp only [eff] at hc
    split at hc
    · exact lv_lsub hx hb hd (hc.1 φ H locs ls hex hP hS hl)
    · exact hc.elim
  case lmul =>
    simp only [annB, Bool.and_eq_true, decide_eq_true_eq] at ha
    obtain ⟨rfl, -⟩ := ha
    rw [Nat.add_sub_cancel_left] at hd
    dsimp only [eff] at hc
    split at hc
    · exact lv_lmul hx hb hd (hc.1 φ H locs ls hex hP hS hl)
    · exact hc.elim
  case land =>
    simp only [annB, Bool.and_eq_true, decide_eq_true_eq] at ha
    obtain ⟨rfl, -⟩ := ha
    rw [Nat.add_sub_cancel_left] at hd
    dsimp only [eff] at hc
    split at hc
    · exact lv_land hx hb hd (hc.1 φ H locs ls hex hP hS hl)
    · exact hc.elim
  case lshr =>
    simp only [annB, Bool.and_eq_true, decide_eq_true_eq] at ha
    obtain ⟨rfl, -⟩ := ha
    rw [Nat.add_sub_cancel_left] at hd
    dsimp only [eff] at hc
    split at hc
    · exact lv_lshr hx hb hd rfl (hc.1 φ H locs ls hex hP hS hl)
    · exact hc.elim
  case lcmp =>
    simp only [annB, Bool.and_eq_true, decide_eq_true_eq] at ha
    obtain ⟨rfl, -⟩ := ha
    rw [Nat.add_sub_cancel_left] at hd
    dsimp only [eff] at hc
    split at hc
    · exact W.lcmp hx hb hd (hc.1 φ H locs ls hex hP hS hl)
    · exact hc.elim
  case i2l =>
    simp only [annB, Bool.and_eq_true, decide_eq_true_eq] at ha
    obtain ⟨rfl, -⟩ := ha
    rw [Nat.add_sub_cancel_left] at hd
    dsimp only [eff] at hc
    split at hc
    · exact lv_i2l hx hb hd rfl (hc.1 φ H locs ls hex hP hS hl)
    · exact hc.elim
  case l2i =>
    simp only [annB, Bool.and_eq_true, decide_eq_true_eq] at ha
    obtain ⟨rfl, -⟩ := ha
    rw [Nat.add_sub_cancel_left] at hd
    dsimp only [eff] at hc
    split at hc
    · exact lv_l2i hx hb hd rfl (hc.1 φ H locs ls hex hP hS hl)
    · exact hc.elim
  case i2b =>
    simp only [annB, Bool.and_eq_true, decide_eq_true_eq] at ha
    obtain ⟨rfl, -⟩ := ha
    rw [Nat.add_sub_cancel_left] at hd
    dsimp only [eff] at hc
    split at hc
    · exact lv_i2b hx hb hd rfl (hc.1 φ H locs ls hex hP hS hl)
    · exact hc.elim
  case i2c =>
    simp only [annB, Bool.and_eq_true, decide_eq_true_eq] at ha
    obtain ⟨rfl, -⟩ := ha
    rw [Nat.add_sub_cancel_left] at hd
    dsimp only [eff] at hc
    split at hc
    · exact lv_i2c hx hb hd rfl (hc.1 φ H locs ls hex hP hS hl)
    · exact hc.elim
  case idiv =>
    simp only [annB, Bool.and_eq_true, decide_eq_true_eq] at ha
    obtain ⟨rfl, -⟩ := ha
    rw [Nat.add_sub_cancel_left] at hd
    dsimp only [eff] at hc
    split at hc
    · split at hc
      · exact hc.elim
      · rename_i hne
        exact lv_idiv hx hb hd hne (hc.1 φ H locs ls hex hP hS hl)
    · exact hc.elim
  case irem =>
    simp only [annB, Bool.and_eq_true, decide_eq_true_eq] at ha
    obtain ⟨rfl, -⟩ := ha
    rw [Nat.add_sub_cancel_left] at hd
    dsimp only [eff] at hc
    split at hc
    · split at hc
      · exact hc.elim
      · rename_i hne
        exact lv_irem hx hb hd hne (hc.1 φ H locs ls hex hP hS hl)
    · exact hc.elim
  case ldiv =>
    simp only [annB, Bool.and_eq_true, decide_eq_true_eq] at ha
    obtain ⟨rfl, -⟩ := ha
    rw [Nat.add_sub_cancel_left] at hd
    dsimp only [eff] at hc
    split at hc
    · split at hc
      · exact hc.elim
      · rename_i hne
        exact lv_ldiv hx hb hd hne (hc.1 φ H locs ls hex hP hS hl)
    · exact hc.elim
  case dup =>
    simp only [annB, Bool.and_eq_true, decide_eq_true_eq] at ha
    obtain ⟨rfl, -⟩ := ha
    rw [Nat.add_sub_cancel_left] at hd
    dsimp only [eff] at hc
    split at hc
    · split at hc
      · rename_i hk
        exact lv_dup hx hb hd (cat1_cv hk) (hc.1 φ H locs ls hex hP hS hl)
      · exact hc.elim
    · exact hc.elim
  case pop =>
    simp only [annB, Bool.and_eq_true, decide_eq_true_eq] at ha
    obtain ⟨rfl, -⟩ := ha
    rw [Nat.add_sub_cancel_left] at hd
    dsimp only [eff] at hc
    split at hc
    · split at hc
      · rename_i hk
        exact lv_pop hx hb hd (cat1_cv hk) (hc.1 φ H locs ls hex hP hS hl)
      · exact hc.elim
    · exact hc.elim
  case dup_x1 =>
    simp only [annB, Bool.and_eq_true, decide_eq_true_eq] at ha
    obtain ⟨rfl, -⟩ := ha
    rw [Nat.add_sub_cancel_left] at hd
    dsimp only [eff] at hc
    split at hc
    · split at hc
      · rename_i hk
        exact lv_dup_x1 hx hb hd (cat1_cv hk.1) (cat1_cv hk.2) (hc.1 φ H locs ls hex hP hS hl)
      · exact hc.elim
    · exact hc.elim
  case dup2 =>
    simp only [annB, Bool.and_eq_true, decide_eq_true_eq] at ha
    obtain ⟨rfl, -⟩ := ha
    rw [Nat.add_sub_cancel_left] at hd
    dsimp only [eff] at hc
    split at hc
    · split at hc
      · rename_i hk
        exact lv_dup2_11 hx hb hd (cat1_cv hk.1) (cat1_cv hk.2) (hc.1 φ H locs ls hex hP hS hl)
      · exact hc.elim
    · exact hc.elim
  case ireturn =>
    simp only [annB, Bool.and_eq_true, decide_eq_true_eq] at ha
    obtain ⟨rfl, -⟩ := ha
    rw [Nat.add_sub_cancel_left] at hd
    dsimp only [eff] at hc
    split at hc
    · split at hc
      · rename_i t ht
        split at hc
        · rename_i hf
          obtain ⟨rfl, rfl⟩ := hc
          exact hfin φ H locs pc ls .ireturn hex hP hS hd ⟨rfl, t, ht, hf⟩
        · exact hc.elim
      · exact hc.elim
    · exact hc.elim
  case lreturn =>
    simp only [annB, Bool.and_eq_true, decide_eq_true_eq] at ha
    obtain ⟨rfl, -⟩ := ha
    rw [Nat.add_sub_cancel_left] at hd
    dsimp only [eff] at hc
    split at hc
    · split at hc
      · rename_i hf
        obtain ⟨rfl, rfl⟩ := hc
        exact hfin φ H locs pc ls .lreturn hex hP hS hd ⟨rfl, hf⟩
      · exact hc.elim
    · exact hc.elim
  case return_ =>
    simp only [annB, Bool.and_eq_true, decide_eq_true_eq] at ha
    obtain ⟨rfl, -⟩ := ha
    rw [Nat.add_sub_cancel_left] at hd
    dsimp only [eff] at hc
    split at hc
    · split at hc
      · rename_i hf
        obtain ⟨rfl, rfl⟩ := hc
        exact hfin φ H locs pc ls .return_ hex hP hS hd ⟨rfl, hf⟩
      · exact hc.elim
    · exact hc.elim
  case areturn =>
    simp only [annB, Bool.and_eq_true, decide_eq_true_eq] at ha
    obtain ⟨rfl, h2⟩ := ha
    rw [Nat.add_sub_cancel_left] at hd
    dsimp only [eff] at hc
    split at hc
    · obtain ⟨rfl, rfl⟩ := hc
      refine hfin φ H locs pc ls .areturn hex hP hS hd ⟨rfl, ?_⟩
      split at h2
      · rename_i n hn; exact ⟨_, hn, Or.inl ⟨n, rfl⟩⟩
      · rename_i n hn; exact ⟨_, hn, Or.inr ⟨n, rfl⟩⟩
      · cases h2
    · exact hc.elim
  case new ix =>
    simp only [annB] at ha
    dsimp only [eff] at hc
    split at hc
    · simp only [Bool.and_eq_true, decide_eq_true_eq] at ha
      obtain ⟨h1, rfl⟩ := ha
      rw [Nat.add_sub_cancel_left] at hd
      have q1 : h.nc + 1 ≤ hF.nc := hc.2.2.1
      have q2 : h.ns + b ≤ hF.ns := hc.2.2.2.1
      have e1 : (h.nw (some (.inl a)) b).nc - c0 = h.nc - c0 + 1 := by show h.nc + 1 - c0 = _; omega
      have e2 : (h.nw (some (.inl a)) b).ns - s0 = h.ns - s0 + b := by show h.ns + b - s0 = _; omega
      refine snd_new hx hb hown hSx hM hP hS h1 (by omega) (by omega) hd (fun z H1 hP1 hS1 => ?_)
      have hext : ∀ i, i < h.sz → zu φ h.sz z i = φ i := fun i hi => by rw [zu, if_neg (by omega)]
      have := hc.1 (zu φ h.sz z) H1 locs ls (fun i hi => by rw [hext i (by omega)]; exact hex i hi) hP1 hS1 (hl.ext hL hext)
      rw [e1, e2, List.map_cons, cvS_ext hext hSt] at this
      have ez : cv (zu φ h.sz z) (.ref h.sz) = .ref z := by show Value.ref (zu φ h.sz z h.sz) = _; rw [zu, if_pos rfl]
      rw [ez] at this
      exact this
    · rename_i hv
      split at ha
      · exact absurd rfl hv
      · simp only [Bool.and_eq_true, decide_eq_true_eq] at ha
        obtain ⟨⟨h1, rfl⟩, -⟩ := ha
        rw [Nat.add_sub_cancel_left] at hd
        split at hc
        · rename_i hr8
          obtain ⟨rfl, rfl⟩ := hc
          obtain ⟨Qc, XC, mc, ms, free, rfl, m1, m2, m3, m4⟩ := hfin
          have q1 : h.thr.nc = h.nc + 1 := rfl
          have q2 : h.thr.ns = h.ns + 6 := rfl
          have hk3 : q.kind ≠ 3 := by
            unfold thrB at h1
            split at h1
            · simp only [Bool.and_eq_true, decide_eq_true_eq] at h1
              exact h1.1.2
            · cases h1
          have hnot : ∀ x ∈ c.exceptionTable.toList, False := by
            rw [htab]
            unfold hhOf
            rw [hh_kind hq hk3]
            exact fun x hx => nomatch hx
          have hX : ∀ t : State, s.vm.Alike t.vm → H.size ≤ t.heap.size → (∀ z : Nat, z < H.size → t.heap[z]? = H[z]?) → XC (exN a) s t := by
            intro t _ t1 t2
            refine m4 φ t hex (hP.grow t2) ⟨Nat.le_trans hS.1 t1, fun z z1 z2 => ?_⟩
            rw [t2 z (Nat.lt_of_lt_of_le z1 hS.1)]
            exact hS.2.1 z z1 z2
          have hr : ((st.map (cv φ)).map fun v => v.category).sum ≤ 8 := by rw [catS_cv]; exact hr8
          have ha4 : a < 4 := by
            unfold thrB at h1
            split at h1
            · simp only [Bool.and_eq_true, decide_eq_true_eq] at h1
              exact h1.1.1.1.2
            · cases h1
          by_cases ha3 : a < 3
          · exact snd_thr hl3 hx hb hown hSx hS hmls.symm hnot hlk (by omega) (by omega) hr ha3 h1 hd (by omega) (by omega) hX (fun z hz => m3 _ (hS.2.2 z hz)) (by omega) (by omega)
          · have : a = 3 := by omega
            subst this
            exact h3 hx hb hown hSx hS hmls.symm hnot hlk (by omega) (by omega) hr h1 hd (by omega) (by omega) hX (fun z hz => m3 _ (hS.2.2 z hz)) (by omega) (by omega)
        · exact hc.elim
  case newarray at_ =>
    simp only [annB, Bool.and_eq_true, decide_eq_true_eq, Bool.or_eq_true] at ha
    obtain ⟨⟨h1, h2⟩, rfl⟩ := ha
    rw [Nat.add_sub_cancel_left] at hd
    dsimp only [eff] at hc
    split at hc
    · rename_i n r
      split at hc
      · exact hc.elim
      · rename_i hn
        have q1 : h.nc + 1 ≤ hF.nc := hc.2.2.1
        have q2 : h.ns + n.toNatClampNeg ≤ hF.ns := hc.2.2.2.1
        have e1 : (h.nw (some (.inr (ty, n.toNatClampNeg))) n.toNatClampNeg).nc - c0 = h.nc - c0 + 1 := by show h.nc + 1 - c0 = _; omega
        have e2 : (h.nw (some (.inr (ty, n.toNatClampNeg))) n.toNatClampNeg).ns - s0 = h.ns - s0 + n.toNatClampNeg := by show h.ns + n.toNatClampNeg - s0 = _; omega
        have h2 : ty = .int ∨ ty = .byte ∨ ty = .long := by
          rcases h2 with (z | z) | z
          · exact Or.inl z
          · exact Or.inr (Or.inl z)
          · exact Or.inr (Or.inr z)
        refine snd_newa hx hb hSx hM hP hS h1 h2 hn (by omega) (by omega) hd (fun z H1 hP1 hS1 => ?_)
        have hext : ∀ i, i < h.sz → zu φ h.sz z i = φ i := fun i hi => by rw [zu, if_neg (by omega)]
        have := hc.1 (zu φ h.sz z) H1 locs ls (fun i hi => by rw [hext i (by omega)]; exact hex i hi) hP1 hS1 (hl.ext hL hext)
        rw [e1, e2, List.map_cons, cvS_ext hext (okS_t hSt)] at this
        have ez : cv (zu φ h.sz z) (.ref h.sz) = .ref z := by show Value.ref (zu φ h.sz z h.sz) = _; rw [zu, if_pos rfl]
        rw [ez] at this
        exact this
    · exact hc.elim
  case anewarray ix =>
    simp only [annB, Bool.and_eq_true, decide_eq_true_eq] at ha
    obtain ⟨⟨rfl, h2⟩, rfl⟩ := ha
    rw [Nat.add_sub_cancel_left] at hd
    dsimp only [eff] at hc
    split at hc
    · rename_i n r
      split at hc
      · exact hc.elim
      · rename_i hn
        have q1 : h.nc + 1 ≤ hF.nc := hc.2.2.1
        have q2 : h.ns + n.toNatClampNeg ≤ hF.ns := hc.2.2.2.1
        have e1 : (h.nw (some (.inr (tyS, n.toNatClampNeg))) n.toNatClampNeg).nc - c0 = h.nc - c0 + 1 := by show h.nc + 1 - c0 = _; omega
        have e2 : (h.nw (some (.inr (tyS, n.toNatClampNeg))) n.toNatClampNeg).ns - s0 = h.ns - s0 + n.toNatClampNeg := by show h.ns + n.toNatClampNeg - s0 = _; omega
        refine snd_newq hx hb hown hSx hM hP hS h2 hn (by omega) (by omega) hd (fun z H1 hP1 hS1 => ?_)
        have hext : ∀ i, i < h.sz → zu φ h.sz z i = φ i := fun i hi => by rw [zu, if_neg (by omega)]
        have := hc.1 (zu φ h.sz z) H1 locs ls (fun i hi => by rw [hext i (by omega)]; exact hex i hi) hP1 hS1 (hl.ext hL hext)
        rw [e1, e2, List.map_cons, cvS_ext hext (okS_t hSt)] at this
        have ez : cv (zu φ h.sz z) (.ref h.sz) = .ref z := by show Value.ref (zu φ h.sz z h.sz) = _; rw [zu, if_pos rfl]
        rw [ez] at this
        exact this
    · exact hc.elim
  case invokevirtual ix =>
    simp only [annB, Bool.and_eq_true, decide_eq_true_eq] at ha
    obtain ⟨h1, rfl⟩ := ha
    rw [Nat.add_sub_cancel_left] at hd
    dsimp only [eff] at hc
    unfold recE at hc
    split at hc
    · rename_i cc pp as r hpop
      split at hc
      · rename_i hk
        exact snd_goC hT hC hq ⟨hx, hb, hml, hown, hSx, hlk, hrt, hini, htab, hRf, hRl⟩ hM hL (popA_ok hpop hSt okS_nil).2 hc0 hs0 hz0 hRc hRs hfin h1 hpop hk.2 (Or.inl ⟨rfl, rfl⟩) (fun _ => ⟨cc, pp, as, rfl, rfl, hk.1⟩) (fun z => nomatch z) hd hcov hc φ H locs ls hex hP hS hl
      · exact hc.elim
    · exact hc.elim
  case invokespecial ix =>
    simp only [annB, Bool.and_eq_true, decide_eq_true_eq] at ha
    obtain ⟨h1, rfl⟩ := ha
    rw [Nat.add_sub_cancel_left] at hd
    dsimp only [eff] at hc
    split at hc
    · unfold iniE at hc
      split at hc
      · rename_i pp as r hpop
        split at hc
        · rename_i hr8
          exact snd_goC hT hC hq ⟨hx, hb, hml, hown, hSx, hlk, hrt, hini, htab, hRf, hRl⟩ hM hL (popA_ok hpop hSt okS_nil).2 hc0 hs0 hz0 hRc hRs hfin h1 hpop hr8 (Or.inr (Or.inr ⟨rfl, Or.inl rfl⟩)) (fun z => z.elim (fun z => nomatch z) (fun z => nomatch z)) (fun _ => ⟨pp, as, rfl⟩) hd hcov hc φ H locs ls hex hP hS hl
        · exact hc.elim
      · exact hc.elim
    · rename_i cc
      unfold recE at hc
      split at hc
      · rename_i cc' pp as r hcc hpop
        cases hcc
        split at hc
        · rename_i hk
          exact snd_goC hT hC hq ⟨hx, hb, hml, hown, hSx, hlk, hrt, hini, htab, hRf, hRl⟩ hM hL (popA_ok hpop hSt okS_nil).2 hc0 hs0 hz0 hRc hRs hfin h1 hpop hk.2 (Or.inr (Or.inr ⟨rfl, Or.inr rfl⟩)) (fun _ => ⟨cc, pp, as, rfl, rfl, hk.1⟩) (fun z => nomatch z) hd hcov hc φ H locs ls hex hP hS hl
        · exact hc.elim
      · exact hc.elim
    · rename_i n1 n2
      split at h1
      · exact absurd rfl n1
      · rename_i cc; exact absurd rfl (n2 cc)
      · simp only [Bool.and_eq_true, decide_eq_true_eq] at h1
        split at hc
        · split at hc
          · rename_i hr8
            exact snd_obj hx hb hmls.symm hown hSx (by omega) (by rw [catS_cv]; omega) h1.1 hd (hc.1 φ H locs ls hex hP hS hl)
          · exact hc.elim
        · exact hc.elim
  case invokestatic ix =>
    simp only [annB, Bool.and_eq_true, decide_eq_true_eq] at ha
    obtain ⟨h1, rfl⟩ := ha
    rw [Nat.add_sub_cancel_left] at hd
    dsimp only [eff] at hc
    split at hc
    · split at hc
      · rename_i as r hpop
        split at hc
        · rename_i hr8
          exact snd_goC hT hC hq ⟨hx, hb, hml, hown, hSx, hlk, hrt, hini, htab, hRf, hRl⟩ hM hL (popA_ok hpop hSt okS_nil).2 hc0 hs0 hz0 hRc hRs hfin h1 hpop hr8 (Or.inr (Or.inl ⟨rfl, rfl⟩)) (fun z => z.elim (fun z => nomatch z) (fun z => nomatch z)) (fun z => nomatch z) hd hcov hc φ H locs ls hex hP hS hl
        · exact hc.elim
      · exact hc.elim
    · rename_i n1
      split at h1
      · exact absurd rfl n1
      · simp only [Bool.and_eq_true, decide_eq_true_eq] at h1
        split at hc
        · split at hc
          · split at hc
            · rename_i hr8
              exact snd_min hx hb hmls hown hSx (by omega) (by rw [catS_cv]; omega) hcs hss h1.1 hd (hc.1 φ H locs ls hex hP hS hl)
            · exact hc.elim
          · exact hc.elim
        · split at hc
          · split at hc
            · rename_i hr8
              exact snd_max hx hb hmls hown hSx (by omega) (by rw [catS_cv]; omega) hcs hss h1.1 hd (hc.1 φ H locs ls hex hP hS hl)
            · exact hc.elim
          · exact hc.elim
        · split at hc
          · split at hc
            · rename_i hr8
              exact snd_minL hx hb hmls hown hSx (by omega) (by rw [catS_cv]; omega) hcs hss h1.1 hd (hc.1 φ H locs ls hex hP hS hl)
            · exact hc.elim
          · exact hc.elim
        · split at hc
          · split at hc
            · rename_i hr8
              unfold oS at hc
              split at hc
              · rename_i h' hs
                refine snd_cpy hT hTb hx hb hmls hown hSx hM hP hS h1.1 (by omega) (by rw [catS_cv]; show _ + (nativeFrameWords "java/lang/System" "arraycopy" 5 + 11) ≤ _; have : nativeFrameWords "java/lang/System" "arraycopy" 5 + 11 ≤ 200 := (by decide +kernel); omega) hs hd (fun H1 locs1 hP1 hS1 => ?_)
                obtain ⟨k1, k2, -⟩ := aCpy_nc hs
                have := hc.1 φ H1 locs1 ls hex hP1 hS1 hl
                rw [k1, k2] at this
                exact this
              · exact hc.elim
            · exact hc.elim
          · exact hc.elim
        · split at hc
          · split at hc
            · exact hc.elim
            · rename_i hn
              simp only [not_or] at hn
              exact snd_chk hx hb hmls hown hSx hS (by omega) (by omega) (by rw [catS_cv]; omega) hcs hss hn.1 (Int32.not_le.mp hn.2.1) h1.1 hd (hc.1 φ H locs ls hex hP hS hl)
          · exact hc.elim
        · exact hc.elim
  all_goals exact hc.elim
