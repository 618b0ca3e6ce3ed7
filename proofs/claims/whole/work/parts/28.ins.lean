-- ===== one instruction is sound =====
def Bx (G : Gx) (y : Nat) (q : MIt) (p : Program) (R : Room) (s : State) (m : MethodId) (meth : Method) (c : Code) : Prop :=
  p.tables.exec = Jvm.exec ∧ c.code = q.bytes ∧ c.maxLocals = q.maxL ∧ s.vm.findClass q.own = some m.cls ∧ Sx G s ∧ meth.locks = false ∧ meth.sig.returnType = q.ret ∧ (q.kind = 2 → meth.name = "<init>") ∧ c.exceptionTable.toList = tableOf (hhOf y) ∧ 16 + q.lev ≤ R.frames ∧ 256 + 64 * q.lev ≤ R.locals
def Gd (G : Gx) (p : Program) (l : Launch) (e : Env) (R : Room) (s : State) (m : MethodId) (args : Array Value) (below : List Frame) (meth : Method) (c : Code) (Q : State → Prop) (nL c0 s0 z0 : Nat) (φ0 : Nat → Nat) (pc : Nat) (L : Lc) (st : List Value) (h : Mm) : Prop :=
  ∀ (φ : Nat → Nat) (H : Heap) (locs : List Loc) (ls : Array Slot), (∀ i, i < z0 → φ i = φ0 i) → Wp G φ h H → va_S (Aq G) s.heap H locs → lvR φ ls nL L → W p l e R s m args below meth c H locs (h.nc - c0) (h.ns - s0) Q (F0 m pc ls (st.map (cv φ)))
def retI (q : MIt) (v : Option Value) (ins : Instr) : Prop := match v with
  | none => ins = .return_ ∧ q.ret = none
  | some (.int x) => ins = .ireturn ∧ ∃ t, q.ret = some t ∧ fits t (.int x) = true
  | some (.long _) => ins = .lreturn ∧ q.ret = some .long
  | some (.ref _) => ins = .areturn ∧ ∃ t, q.ret = some t ∧ ((∃ n, t = .object n) ∨ ∃ t', t = .array t')
  | _ => False
def FIN (G : Gx) (p : Program) (l : Launch) (e : Env) (R : Room) (s : State) (m : MethodId) (args : Array Value) (below : List Frame) (meth : Method) (c : Code) (Q : State → Prop) (q : MIt) (c0 s0 z0 : Nat) (φ0 : Nat → Nat) (o : Out) (h' : Mm) : Prop := match o with
  | .inl v => ∀ (φ : Nat → Nat) (H : Heap) (locs : List Loc) (pc : Nat) (ls : Array Slot) (ins : Instr), (∀ i, i < z0 → φ i = φ0 i) → Wp G φ h' H → va_S (Aq G) s.heap H locs → decode q.bytes pc = .ok (ins, 1) → retI q v ins → W p l e R s m args below meth c H locs (h'.nc - c0) (h'.ns - s0) Q (F0 m pc ls (v.map (cv φ)).toList)
  | .inr E => ∃ (Qc : Array Value → State → Outcome → State → Prop) (XC : String → State → State → Prop) (mc ms : Nat) (free : Addr → Prop), Q = vx_MQ below Qc XC args s mc ms free ∧ h'.nc - c0 ≤ mc ∧ h'.ns - s0 ≤ ms ∧ (∀ z, Aq G z → free z) ∧ ∀ (φ : Nat → Nat) (t : State), (∀ i, i < z0 → φ i = φ0 i) → Wp G φ h' t.heap → va_F (Aq G) s t → XC E s t
def contE (G : Gx) (p : Program) (l : Launch) (e : Env) (R : Room) (s : State) (m : MethodId) (args : Array Value) (below : List Frame) (meth : Method) (c : Code) (Q : State → Prop) (y nL c0 s0 z0 : Nat) (φ0 : Nat → Nat) (nx : Nat) (oF : Out) (hF : Mm) (ef : Ef) : Prop := match ef with
  | .inl none => False
  | .inl (some (o, h')) => o = oF ∧ h' = hF
  | .inr (.inl (L, st, h')) => Gd G p l e R s m args below meth c Q nL c0 s0 z0 φ0 nx L st h' ∧ leM h' hF
  | .inr (.inr (.inl (pc, L, st, h'))) => Gd G p l e R s m args below meth c Q nL c0 s0 z0 φ0 pc L st h' ∧ leM h' hF
  | .inr (.inr (.inr (z, as, L, st, h'))) => ∃ (o2 : Out) (h2 : Mm), Ct l G z as h' o2 h2 ∧ leM h' h2 ∧ leM h2 hF ∧ okO h2.sz o2 ∧ (match o2 with
    | .inl (some v) => Gd G p l e R s m args below meth c Q nL c0 s0 z0 φ0 nx L (v :: st) h2
    | .inl none => Gd G p l e R s m args below meth c Q nL c0 s0 z0 φ0 nx L st h2
    | .inr E => (match hdOf y E with
      | some (pc', n) => Gd G p l e R s m args below meth c Q nL c0 s0 z0 φ0 pc' (catL L n) [] h2
      | none => oF = .inr E ∧ hF = h2))
theorem stI_nc {h h' : Mm} {pp : Nat} {i x : Int32} (e : stI h pp i x = some h') : h'.nc = h.nc ∧ h'.ns = h.ns ∧ h'.sz = h.sz := by
  unfold stI at e
  split at e
  · obtain ⟨k, -, rfl⟩ := Option.map_eq_some_iff.mp e; exact ⟨rfl, rfl, rfl⟩
  · cases e
theorem stB_nc {h h' : Mm} {pp : Nat} {i x : Int32} (e : stB h pp i x = some h') : h'.nc = h.nc ∧ h'.ns = h.ns ∧ h'.sz = h.sz := by
  unfold stB at e
  split at e
  · obtain ⟨k, -, rfl⟩ := Option.map_eq_some_iff.mp e; exact ⟨rfl, rfl, rfl⟩
  · cases e
theorem stJ_nc {h h' : Mm} {pp : Nat} {i : Int32} {x : Int64} (e : stJ h pp i x = some h') : h'.nc = h.nc ∧ h'.ns = h.ns ∧ h'.sz = h.sz := by
  unfold stJ at e
  split at e
  · obtain ⟨k, -, rfl⟩ := Option.map_eq_some_iff.mp e; exact ⟨rfl, rfl, rfl⟩
  · cases e
theorem stA_nc {h h' : Mm} {cn pp : Nat} {i : Int32} {x : Nat} (e : stA h cn pp i x = some h') : h'.nc = h.nc ∧ h'.ns = h.ns ∧ h'.sz = h.sz := by
  unfold stA at e
  split at e
  · split at e
    · obtain ⟨k, -, rfl⟩ := Option.map_eq_some_iff.mp e; exact ⟨rfl, rfl, rfl⟩
    · cases e
  · cases e
theorem aCpy_nc {h h' : Mm} {p0 p1 : Nat} {sp dp n : Int32} (e : aCpy h p0 p1 sp dp n = some h') : h'.nc = h.nc ∧ h'.ns = h.ns ∧ h'.sz = h.sz := by
  unfold aCpy at e
  split at e
  · cases e
  · split at e
    · cases e
    · cases e; exact ⟨rfl, rfl, rfl⟩
theorem Wp.grow {G : Gx} {φ : Nat → Nat} {h : Mm} {H H1 : Heap} (hP : Wp G φ h H) (hk : ∀ z : Nat, z < H.size → H1[z]? = H[z]?) : Wp G φ h H1 := ⟨hP.1.kept (fun k q hq => hk q.1 (hP.1 k q hq).lt), hP.2⟩
theorem cat1_cv {φ : Nat → Nat} {v : Value} (h : cat1 v = true) : (cv φ v).category = 1 := by
  rw [cv_cat]
  cases v <;> first | rfl | cases h
set_option maxHeartbeats 16000000 in
set_option maxRecDepth 20000 in
theorem snd_ins {G : Gx} {p : Program} {l : Launch} {e : Env} {R : Room} {s : State} {m : MethodId} {args : Array Value} {below : List Frame} {meth : Method} {c : Code} {Q : State → Prop} {y c0 s0 z0 : Nat} {φ0 : Nat → Nat} {q : MIt} {oF : Out} {hF : Mm}
    (hT : stT G.2.2.2.2) (hC : stC G.2.2.2.2) (hTb : stB8 G.2.2.2.2) (hl3 : l.stackTraces = false) (h3 : Thr3 l G) (hN1 : ∀ e ∈ SR, e.2.2.2 < nS) (hN2 : ∀ e ∈ sFld, okV nS e.2.2.2) (hq : MI[y]? = some q) (hB : Bx G y q p R s m meth c) {r : Rw} {pc : Nat} (hrow : rowB q pc r = true) (hcov : covR y pc r = true) {L : Lc} {st : List Value} {h : Mm} (hM : okM G.2.2.2.2 h) (hL : okL h.sz L) (hSt : okS h.sz st) (hc0 : c0 ≤ h.nc) (hs0 : s0 ≤ h.ns) (hz0 : z0 ≤ h.sz) (hRc : hF.nc - c0 ≤ R.cells) (hRs : hF.ns - s0 ≤ R.slots) (hhF : leM h hF) (hfin : FIN G p l e R s m args below meth c Q q c0 s0 z0 φ0 oF hF)
    (hc : contE G p l e R s m args below meth c Q y q.maxL c0 s0 z0 φ0 r.2.1 oF hF (eff q.ret r L st h)) : Gd G p l e R s m args below meth c Q q.maxL c0 s0 z0 φ0 pc L st h := by
  obtain ⟨hx, hb, hml, hown, hSx, hlk, hrt, hini, htab, hRf, hRl⟩ := hB
  obtain ⟨ins, nx, a, b, v, ty, w⟩ := r
  unfold rowB at hrow
  rw [Bool.and_eq_true] at hrow
  obtain ⟨hd, ha⟩ := hrow
  have hd := of_decide_eq_true hd
  dsimp only at hd hc
  have hcs : h.nc - c0 ≤ R.cells := by have := hhF.2.1; omega
  have hss : h.ns - s0 ≤ R.slots := by have := hhF.2.2.1; omega
  intro φ H locs ls hex hP hS hl
  have hsz : ls.size = q.maxL := hl.1
  have hmls : c.maxLocals = ls.size := hml.trans hsz.symm
  cases ins
  case iconst n =>
    simp only [annB, Bool.and_eq_true, decide_eq_true_eq] at ha
    obtain ⟨rfl, rfl⟩ := ha
    rw [Nat.add_sub_cancel_left] at hd
    exact lv_iconst hx hb hd rfl (hc.1 φ H locs ls hex hP hS hl)
  case bipush n =>
    simp only [annB, Bool.and_eq_true, decide_eq_true_eq] at ha
    obtain ⟨rfl, rfl⟩ := ha
    rw [Nat.add_sub_cancel_left] at hd
    exact lv_bipush hx hb hd rfl (hc.1 φ H locs ls hex hP hS hl)
  case sipush n =>
    simp only [annB, Bool.and_eq_true, decide_eq_true_eq] at ha
    obtain ⟨rfl, rfl⟩ := ha
    rw [Nat.add_sub_cancel_left] at hd
    exact lv_sipush hx hb hd rfl (hc.1 φ H locs ls hex hP hS hl)
  case lconst n =>
    simp only [annB, Bool.and_eq_true, decide_eq_true_eq] at ha
    obtain ⟨rfl, rfl⟩ := ha
    rw [Nat.add_sub_cancel_left] at hd
    exact lv_lconst hx hb hd rfl (hc.1 φ H locs ls hex hP hS hl)
  case ldc n =>
    simp only [annB, Bool.and_eq_true, decide_eq_true_eq] at ha
    obtain ⟨h1, rfl⟩ := ha
    rw [Nat.add_sub_cancel_left] at hd
    exact snd_ldc hx hb hown hSx hP hN1 (Or.inl ⟨rfl, rfl⟩) h1 hd (hc.1 φ H locs ls hex hP hS hl)
  case ldc_w n =>
    simp only [annB, Bool.and_eq_true, decide_eq_true_eq] at ha
    obtain ⟨h1, rfl⟩ := ha
    rw [Nat.add_sub_cancel_left] at hd
    exact snd_ldc hx hb hown hSx hP hN1 (Or.inr ⟨rfl, rfl⟩) h1 hd (hc.1 φ H locs ls hex hP hS hl)
  case ldc2_w n =>
    simp only [annB, Bool.and_eq_true, decide_eq_true_eq] at ha
    obtain ⟨h1, rfl⟩ := ha
    rw [Nat.add_sub_cancel_left] at hd
    unfold ldc2B at h1
    split at h1
    · rename_i k hk
      simp only [Bool.and_eq_true, decide_eq_true_eq] at h1
      obtain ⟨⟨g1, g2⟩, rfl⟩ := h1
      have hw := hSx.1.use (KL_in k (List.mem_of_getElem? hk)) rfl args
      unfold klW at hw
      rw [g1, g2] at hw
      exact lv_ldc2 hx hb hown hw hd (hc.1 φ H locs ls hex hP hS hl)
    · cases h1
  case getstatic n =>
    simp only [annB, Bool.and_eq_true, decide_eq_true_eq] at ha
    obtain ⟨h1, rfl⟩ := ha
    rw [Nat.add_sub_cancel_left] at hd
    exact snd_gs hx hb hown hSx hP hS hN2 h1 hd (hc.1 φ H locs ls hex hP hS hl)
  case aconst_null =>
    simp only [annB, Bool.and_eq_true, decide_eq_true_eq] at ha
    subst ha
    rw [Nat.add_sub_cancel_left] at hd
    exact lv_null hx hb hd (hc.1 φ H locs ls hex hP hS hl)
  case iload n =>
    simp only [annB, Bool.and_eq_true, decide_eq_true_eq] at ha
    obtain ⟨rfl, rfl⟩ := ha
    rw [Nat.add_sub_cancel_left] at hd
    dsimp only [eff] at hc
    split at hc
    · rename_i x hg
      exact lv_iload hx hb hd (hl.get hg) (hc.1 φ H locs ls hex hP hS hl)
    · exact hc.elim
  case lload n =>
    simp only [annB, Bool.and_eq_true, decide_eq_true_eq] at ha
    obtain ⟨rfl, rfl⟩ := ha
    rw [Nat.add_sub_cancel_left] at hd
    dsimp only [eff] at hc
    split at hc
    · rename_i x hg
      exact lv_lload hx hb hd (hl.get hg) (hc.1 φ H locs ls hex hP hS hl)
    · exact hc.elim
  case aload n =>
    simp only [annB, Bool.and_eq_true, decide_eq_true_eq] at ha
    obtain ⟨rfl, rfl⟩ := ha
    rw [Nat.add_sub_cancel_left] at hd
    dsimp only [eff] at hc
    split at hc
    · rename_i x hg
      exact lv_aload hx hb hd (hl.get hg) (hc.1 φ H locs ls hex hP hS hl)
    · rename_i hg
      exact lv_aloadN hx hb hd (hl.get hg) (hc.1 φ H locs ls hex hP hS hl)
    · exact hc.elim
  case iload_n n =>
    simp only [annB, Bool.and_eq_true, decide_eq_true_eq] at ha
    obtain ⟨rfl, rfl⟩ := ha
    rw [Nat.add_sub_cancel_left] at hd
    dsimp only [eff] at hc
    split at hc
    · rename_i x hg
      exact lv_iload_n hx hb hd rfl (hl.get hg) (hc.1 φ H locs ls hex hP hS hl)
    · exact hc.elim
  case lload_n n =>
    simp only [annB, Bool.and_eq_true, decide_eq_true_eq] at ha
    obtain ⟨rfl, rfl⟩ := ha
    rw [Nat.add_sub_cancel_left] at hd
    dsimp only [eff] at hc
    split at hc
    · rename_i x hg
      exact lv_lload_n hx hb hd rfl (hl.get hg) (hc.1 φ H locs ls hex hP hS hl)
    · exact hc.elim
  case aload_n n =>
    simp only [annB, Bool.and_eq_true, decide_eq_true_eq] at ha
    obtain ⟨rfl, rfl⟩ := ha
    rw [Nat.add_sub_cancel_left] at hd
    dsimp only [eff] at hc
    split at hc
    · rename_i x hg
      exact lv_aload_n hx hb hd rfl (hl.get hg) (hc.1 φ H locs ls hex hP hS hl)
    · rename_i hg
      exact lv_aload_nN hx hb hd rfl (hl.get hg) (hc.1 φ H locs ls hex hP hS hl)
    · exact hc.elim
  case istore n =>
    simp only [annB, Bool.and_eq_true, decide_eq_true_eq] at ha
    obtain ⟨⟨rfl, rfl⟩, h4⟩ := ha
    rw [Nat.add_sub_cancel_left] at hd
    dsimp only [eff] at hc
    split at hc
    · exact lv_istore hx hb hd hl h4 rfl (fun ls' hl' => hc.1 φ H locs ls' hex hP hS (lvR.set hl'))
    · exact hc.elim
  case lstore n =>
    simp only [annB, Bool.and_eq_true, decide_eq_true_eq] at ha
    obtain ⟨⟨rfl, rfl⟩, h4⟩ := ha
    rw [Nat.add_sub_cancel_left] at hd
    dsimp only [eff] at hc
    split at hc
    · exact lv_lstore hx hb hd hl h4 rfl (fun ls' hl' => hc.1 φ H locs ls' hex hP hS (lvR.set2 hl'))
    · exact hc.elim
  case astore n =>
    simp only [annB, Bool.and_eq_true, decide_eq_true_eq] at ha
    obtain ⟨⟨rfl, rfl⟩, h4⟩ := ha
    rw [Nat.add_sub_cancel_left] at hd
    dsimp only [eff] at hc
    split at hc
    · exact lv_astore hx hb hd hl h4 rfl (fun ls' hl' => hc.1 φ H locs ls' hex hP hS (lvR.set hl'))
    · exact lv_astoreN hx hb hd hl h4 rfl (fun ls' hl' => hc.1 φ H locs ls' hex hP hS (lvR.set hl'))
    · exact hc.elim
  case istore_n n =>
    simp only [annB, Bool.and_eq_true, decide_eq_true_eq] at ha
    obtain ⟨⟨rfl, rfl⟩, h4⟩ := ha
    rw [Nat.add_sub_cancel_left] at hd
    dsimp only [eff] at hc
    split at hc
    · exact lv_istore_n hx hb hd rfl hl h4 rfl (fun ls' hl' => hc.1 φ H locs ls' hex hP hS (lvR.set hl'))
    · exact hc.elim
  case lstore_n n =>
    simp only [annB, Bool.and_eq_true, decide_eq_true_eq] at ha
    obtain ⟨⟨rfl, rfl⟩, h4⟩ := ha
    rw [Nat.add_sub_cancel_left] at hd
    dsimp only [eff] at hc
    split at hc
    · exact lv_lstore_n hx hb hd rfl hl h4 rfl (fun ls' hl' => hc.1 φ H locs ls' hex hP hS (lvR.set2 hl'))
    · exact hc.elim
  case astore_n n =>
    simp only [annB, Bool.and_eq_true, decide_eq_true_eq] at ha
    obtain ⟨⟨rfl, rfl⟩, h4⟩ := ha
    rw [Nat.add_sub_cancel_left] at hd
    dsimp only [eff] at hc
    split at hc
    · exact lv_astore_n hx hb hd rfl hl h4 rfl (fun ls' hl' => hc.1 φ H locs ls' hex hP hS (lvR.set hl'))
    · exact lv_astore_nN hx hb hd rfl hl h4 rfl (fun ls' hl' => hc.1 φ H locs ls' hex hP hS (lvR.set hl'))
    · exact hc.elim
  case iinc n i =>
    simp only [annB, Bool.and_eq_true, decide_eq_true_eq] at ha
    obtain ⟨⟨⟨rfl, rfl⟩, rfl⟩, h4⟩ := ha
    rw [Nat.add_sub_cancel_left] at hd
    dsimp only [eff] at hc
    split at hc
    · rename_i x y' hg hy
      cases hy
      obtain ⟨k, hk⟩ := List.getElem?_of_mem (mem_ascF.mpr ⟨a, .int x, rfl, hg⟩ : (0 + a, cv φ (.int x)) ∈ ascF φ 0 L)
      rw [Nat.zero_add] at hk
      exact lv_iinc hx hb hd hl hk rfl h4 rfl (fun ls' hl' => hc.1 φ H locs ls' hex hP hS (lvR.set hl'))
    · exact hc.elim
  case goto off =>
    simp only [annB, Bool.and_eq_true, decide_eq_true_eq] at ha
    obtain ⟨h1, rfl⟩ := ha
    rw [Nat.add_sub_cancel_left] at hd
    exact lv_goto hx hb hd h1 (hc.1 φ H locs ls hex hP hS hl)
  case ifCond cd off =>
    simp only [annB, Bool.and_eq_true, decide_eq_true_eq] at ha
    obtain ⟨h1, rfl⟩ := ha
    rw [Nat.add_sub_cancel_left] at hd
    dsimp only [eff] at hc
    split at hc
    · cases cd <;> dsimp only at hc <;> split at hc
      all_goals rename_i hcd
      · exact lv_if_eq hx hb hd h1 (fun _ => hc.1 φ H locs ls hex hP hS hl) (fun z => absurd hcd z)
      · exact lv_if_eq hx hb hd h1 (fun z => absurd z hcd) (fun _ => hc.1 φ H locs ls hex hP hS hl)
      · exact lv_if_ne hx hb hd h1 (fun z => absurd hcd z) (fun _ => hc.1 φ H locs ls hex hP hS hl)
      · exact lv_if_ne hx hb hd h1 (fun _ => hc.1 φ H locs ls hex hP hS hl) (fun z => absurd z hcd)
      · exact lv_if_lt hx hb hd h1 (fun _ => hc.1 φ H locs ls hex hP hS hl) (fun z => absurd hcd z)
      · exact lv_if_lt hx hb hd h1 (fun z => absurd z hcd) (fun _ => hc.1 φ H locs ls hex hP hS hl)
      · exact lv_if_ge hx hb hd h1 (fun _ => hc.1 φ H locs ls hex hP hS hl) (fun z => absurd hcd z)
      · exact lv_if_ge hx hb hd h1 (fun z => absurd z hcd) (fun _ => hc.1 φ H locs ls hex hP hS hl)
      · exact lv_if_gt hx hb hd h1 (fun _ => hc.1 φ H locs ls hex hP hS hl) (fun z => absurd hcd z)
      · exact lv_if_gt hx hb hd h1 (fun z => absurd z hcd) (fun _ => hc.1 φ H locs ls hex hP hS hl)
      · exact lv_if_le hx hb hd h1 (fun _ => hc.1 φ H locs ls hex hP hS hl) (fun z => absurd hcd z)
      · exact lv_if_le hx hb hd h1 (fun z => absurd z hcd) (fun _ => hc.1 φ H locs ls hex hP hS hl)
    · exact hc.elim
  case if_icmp cd off =>
    simp only [annB, Bool.and_eq_true, decide_eq_true_eq] at ha
    obtain ⟨h1, rfl⟩ := ha
    rw [Nat.add_sub_cancel_left] at hd
    dsimp only [eff] at hc
    split at hc
    · cases cd <;> dsimp only at hc <;> split at hc
      all_goals rename_i hcd
      · exact lv_icmp_eq hx hb hd h1 (fun _ => hc.1 φ H locs ls hex hP hS hl) (fun z => absurd hcd z)
      · exact lv_icmp_eq hx hb hd h1 (fun z => absurd z hcd) (fun _ => hc.1 φ H locs ls hex hP hS hl)
      · exact lv_icmp_ne hx hb hd h1 (fun z => absurd hcd z) (fun _ => hc.1 φ H locs ls hex hP hS hl)
      · exact lv_icmp_ne hx hb hd h1 (fun _ => hc.1 φ H locs ls hex hP hS hl) (fun z => absurd z hcd)
      · exact lv_icmp_lt hx hb hd h1 (fun _ => hc.1 φ H locs ls hex hP hS hl) (fun z => absurd hcd z)
      · exact lv_icmp_lt hx hb hd h1 (fun z => absurd z hcd) (fun _ => hc.1 φ H locs ls hex hP hS hl)
      · exact lv_icmp_ge hx hb hd h1 (fun _ => hc.1 φ H locs ls hex hP hS hl) (fun z => absurd hcd z)
      · exact lv_icmp_ge hx hb hd h1 (fun z => absurd z hcd) (fun _ => hc.1 φ H locs ls hex hP hS hl)
      · exact lv_icmp_gt hx hb hd h1 (fun _ => hc.1 φ H locs ls hex hP hS hl) (fun z => absurd hcd z)
      · exact lv_icmp_gt hx hb hd h1 (fun z => absurd z hcd) (fun _ => hc.1 φ H locs ls hex hP hS hl)
      · exact lv_icmp_le hx hb hd h1 (fun _ => hc.1 φ H locs ls hex hP hS hl) (fun z => absurd hcd z)
      · exact lv_icmp_le hx hb hd h1 (fun z => absurd z hcd) (fun _ => hc.1 φ H locs ls hex hP hS hl)
    · exact hc.elim
  case ifnull off =>
    simp only [annB, Bool.and_eq_true, decide_eq_true_eq] at ha
    obtain ⟨h1, rfl⟩ := ha
    rw [Nat.add_sub_cancel_left] at hd
    dsimp only [eff] at hc
    split at hc
    · exact lv_ifnull hx hb hd (hc.1 φ H locs ls hex hP hS hl)
    · exact lv_ifnullN hx hb hd h1 (hc.1 φ H locs ls hex hP hS hl)
    · exact hc.elim
  case ifnonnull off =>
    simp only [annB, Bool.and_eq_true, decide_eq_true_eq] at ha
    obtain ⟨h1, rfl⟩ := ha
    rw [Nat.add_sub_cancel_left] at hd
    dsimp only [eff] at hc
    split at hc
    · exact lv_ifnonnull hx hb hd h1 (hc.1 φ H locs ls hex hP hS hl)
    · exact lv_ifnonnullN hx hb hd (hc.1 φ H locs ls hex hP hS hl)
    · exact hc.elim
  case tableswitch d lo hi offs =>
    simp only [annB, Bool.and_eq_true, decide_eq_true_eq] at ha
    obtain ⟨⟨⟨rfl, h1⟩, h2⟩, h4⟩ := ha
    dsimp only [eff] at hc
    split at hc
    · rename_i x r
      have hk := hc.1 φ H locs ls hex hP hS hl
      unfold swT at hk
      split at hk
      · rename_i ho
        exact lv_tableOut hx hb hd ho (by omega) hk
      · rename_i ho
        have o1 : ¬ x.toInt < lo := fun z => ho (Or.inl z)
        have o2 : ¬ hi < x.toInt := fun z => ho (Or.inr z)
        have hlt : (x.toInt - lo).toNat < offs.size := by omega
        have hof : offs[(x.toInt - lo).toNat]? = some offs[(x.toInt - lo).toNat] := Array.getElem?_eq_getElem hlt
        rw [hof] at hk
        have hge := List.all_eq_true.mp h2 offs[(x.toInt - lo).toNat] (by rw [Array.mem_toList_iff]; exact Array.getElem_mem hlt)
        have hge := of_decide_eq_true hge
        exact lv_tableIn hx hb hd o1 o2 hof (by omega) hk
    · exact hc.elim
  case getfield ix =>
    simp only [annB, Bool.and_eq_true, decide_eq_true_eq] at ha
    obtain ⟨h1, rfl⟩ := ha
    rw [Nat.add_sub_cancel_left] at hd
    dsimp only [eff] at hc
    split at hc
    · split at hc
      · rename_i hk
        exact snd_get hT hC hx hb hown hSx hM hP hS h1 hk hd (hc.1 φ H locs ls hex hP hS hl)
      · exact hc.elim
    · exact hc.elim
  case putfield ix =>
    simp only [annB, Bool.and_eq_true, decide_eq_true_eq] at ha
    obtain ⟨h1, rfl⟩ := ha
    rw [Nat.add_sub_cancel_left] at hd
    dsimp only [eff] at hc
    split at hc
    · rename_i x pp r
      split at hc
      · rename_i hk
        unfold oS at hc
        split at hc
        · rename_i h' hs
          refine snd_put hT hx hb hown hini hSx hM hP hS h1 hk hs hd (fun H1 locs1 hP1 hS1 => ?_)
          obtain ⟨-, n1, n2, -⟩ := setS_slot hs
          have := hc.1 φ H1 locs1 ls hex hP1 hS1 hl
          rw [n1, n2] at this
          exact this
        · exact hc.elim
      · exact hc.elim
    · exact hc.elim
  case iaload =>
    simp only [annB, Bool.and_eq_true, decide_eq_true_eq] at ha
    obtain ⟨rfl, -⟩ := ha
    rw [Nat.add_sub_cancel_left] at hd
    dsimp only [eff] at hc
    split at hc
    · split at hc
      · rename_i hk
        exact snd_iald hT hx hb hSx hM hP hS hk hd (hc.1 φ H locs ls hex hP hS hl)
      · exact hc.elim
    · exact hc.elim
  case baload =>
    simp only [annB, Bool.and_eq_true, decide_eq_true_eq] at ha
    obtain ⟨rfl, -⟩ := ha
    rw [Nat.add_sub_cancel_left] at hd
    dsimp only [eff] at hc
    split at hc
    · split at hc
      · rename_i hk
        exact snd_bald hT hx hb hSx hM hP hS hk hd (hc.1 φ H locs ls hex hP hS hl)
      · exact hc.elim
    · exact hc.elim
  case laload =>
    simp only [annB, Bool.and_eq_true, decide_eq_true_eq] at ha
    obtain ⟨rfl, -⟩ := ha
    rw [Nat.add_sub_cancel_left] at hd
    dsimp only [eff] at hc
    split at hc
    · split at hc
      · rename_i hk
        exact snd_lald hT hx hb hSx hM hP hk hd (hc.1 φ H locs ls hex hP hS hl)
      · exact hc.elim
    · exact hc.elim
  case aaload =>
    simp only [annB, Bool.and_eq_true, decide_eq_true_eq] at ha
    obtain ⟨rfl, -⟩ := ha
    rw [Nat.add_sub_cancel_left] at hd
    dsimp only [eff] at hc
    split at hc
    · split at hc
      · rename_i hk
        exact snd_aald hT hx hb hSx hM (hM.okA hT) hP hS hk hd (hc.1 φ H locs ls hex hP hS hl)
      · exact hc.elim
    · exact hc.elim
  case arraylength =>
    simp only [annB, Bool.and_eq_true, decide_eq_true_eq] at ha
    obtain ⟨rfl, -⟩ := ha
    rw [Nat.add_sub_cancel_left] at hd
    dsimp only [eff] at hc
    split at hc
    · split at hc
      · rename_i hk
        exact snd_alen hT hx hb hSx hM (hM.okA hT) hP hS (fun i ty n hi hk => (hM.2.2.2.2.2 i hi).2 ty n hk) hk hd (hc.1 φ H locs ls hex hP hS hl)
      · exact hc.elim
    · exact hc.elim
  case iastore =>
    simp only [annB, Bool.and_eq_true, decide_eq_true_eq] at ha
    obtain ⟨rfl, -⟩ := ha
    rw [Nat.add_sub_cancel_left] at hd
    dsimp only [eff] at hc
    split at hc
    · unfold oS at hc
      split at hc
      · rename_i h' hs
        refine snd_iast hT hx hb hSx hM hP hS hs hd (fun H1 locs1 hP1 hS1 => ?_)
        obtain ⟨n1, n2, -⟩ := stI_nc hs
        have := hc.1 φ H1 locs1 ls hex hP1 hS1 hl
        rw [n1, n2] at this
        exact this
      · exact hc.elim
    · exact hc.elim
  case bastore =>
    simp only [annB, Bool.and_eq_true, decide_eq_true_eq] at ha
    obtain ⟨rfl, -⟩ := ha
    rw [Nat.add_sub_cancel_left] at hd
    dsimp only [eff] at hc
    split at hc
    · unfold oS at hc
      split at hc
      · rename_i h' hs
        refine snd_bast hT hx hb hSx hM hP hS hs hd (fun H1 locs1 hP1 hS1 => ?_)
        obtain ⟨n1, n2, -⟩ := stB_nc hs
        have := hc.1 φ H1 locs1 ls hex hP1 hS1 hl
        rw [n1, n2] at this
        exact this
      · exact hc.elim
    · exact hc.elim
  case lastore =>
    simp only [annB, Bool.and_eq_true, decide_eq_true_eq] at ha
    obtain ⟨rfl, -⟩ := ha
    rw [Nat.add_sub_cancel_left] at hd
    dsimp only [eff] at hc
    split at hc
    · unfold oS at hc
      split at hc
      · rename_i h' hs
        refine snd_last hT hx hb hSx hM hP hS hs hd (fun H1 locs1 hP1 hS1 => ?_)
        obtain ⟨n1, n2, -⟩ := stJ_nc hs
        have := hc.1 φ H1 locs1 ls hex hP1 hS1 hl
        rw [n1, n2] at this
        exact this
      · exact hc.elim
    · exact hc.elim
  case aastore =>
    simp only [annB, Bool.and_eq_true, decide_eq_true_eq] at ha
    obtain ⟨rfl, rfl⟩ := ha
    rw [Nat.add_sub_cancel_left] at hd
    dsimp only [eff] at hc
    split at hc
    · unfold oS at hc
      split at hc
      · rename_i h' hs
        refine snd_aast hT hx hb hSx hM (hM.okA hT) hP hS hs hd (fun H1 locs1 hP1 hS1 => ?_)
        obtain ⟨n1, n2, -⟩ := stA_nc hs
        have := hc.1 φ H1 locs1 ls hex hP1 hS1 hl
        rw [n1, n2] at this
        exact this
      · exact hc.elim
    · exact hc.elim
  all_goals sorry
