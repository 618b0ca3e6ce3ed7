-- ===== the words of the four throws =====
abbrev xNames : List String := ["java/lang/RuntimeException", "java/lang/Exception"]
def xIc : Nat → Nat
  | 0 => 328
  | 1 => 79
  | 2 => 104
  | _ => 310
set_option maxRecDepth 1000000 in
theorem xW_0 : (vx_atS "FishGrader" 328 "java/lang/IllegalStateException" xNames).all (fun w => decide (w ∈ lw_tbl) && useW w && vx_ot w) = true := by decide +kernel
set_option maxRecDepth 1000000 in
theorem xW_1 : (vx_atS "FishGrader" 79 "java/lang/IndexOutOfBoundsException" xNames).all (fun w => decide (w ∈ lw_tbl) && useW w && vx_ot w) = true := by decide +kernel
set_option maxRecDepth 1000000 in
theorem xW_2 : (vx_atS "FishGrader" 104 "java/lang/IllegalArgumentException" xNames).all (fun w => decide (w ∈ lw_tbl) && useW w && vx_ot w) = true := by decide +kernel
theorem xW (a : Nat) (ha : a < 3) : ∀ w ∈ vx_atS "FishGrader" (xIc a) (exN a) xNames, w ∈ lw_tbl ∧ useW w = true ∧ vx_ot w = true := by
  have h : (vx_atS "FishGrader" (xIc a) (exN a) xNames).all (fun w => decide (w ∈ lw_tbl) && useW w && vx_ot w) = true := by
    rcases (show a = 0 ∨ a = 1 ∨ a = 2 by omega) with rfl | rfl | rfl
    · exact xW_0
    · exact xW_1
    · exact xW_2
  intro w hw
  have := List.all_eq_true.mp h w hw
  simp only [Bool.and_eq_true, decide_eq_true_eq] at this
  exact ⟨this.1.1, this.1.2, this.2⟩
theorem XR_ok : ∀ e ∈ XR, e.1 = "FishGrader" ∧ e.2.2.2.1 = xIc e.2.2.2.2.1 ∧ e.2.2.2.2.1 < 4 := by decide +kernel
set_option maxRecDepth 1000000 in
theorem XI_in : ∀ a, a < 4 → Cond.initialized (exN a) ∈ lw_tbl := by
  intro a ha
  rcases (show a = 0 ∨ a = 1 ∨ a = 2 ∨ a = 3 by omega) with rfl | rfl | rfl | rfl <;> decide +kernel
section SNDC
variable {p : Program} {l : Launch} {e : Env} {R : Room} {s : State} {m : MethodId} {args : Array Value} {below : List Frame} {meth : Method} {c : Code} {H : Heap} {locs : List Loc} {cells slots : Nat} {Q : State → Prop} {G : Gx} {φ : Nat → Nat} {h : Mm} {q : MIt} {pc : Nat} {ls : Array Slot} {rest : List Value}
theorem catS_cv {φ : Nat → Nat} : ∀ {r : List Value}, ((r.map (cv φ)).map fun v => v.category).sum = catS r := by
  intro r
  induction r with
  | nil => rfl
  | cons v t ih =>
    simp only [List.map_cons, List.sum_cons, ih, catS, cv_cat]
    congr 1
    cases v <;> rfl
theorem snd_thr {Qc : Array Value → State → Outcome → State → Prop} {XC : String → State → State → Prop} {mc ms : Nat} {free : Addr → Prop} (hl : l.stackTraces = false) (hx : p.tables.exec = Jvm.exec) (hb : c.code = q.bytes) (hown : s.vm.findClass q.own = some m.cls) (hSx : Sx G s) (hS : va_S (Aq G) s.heap H locs) (hsize : ls.size = c.maxLocals) (htab : ∀ x ∈ c.exceptionTable.toList, False) (hlk : meth.locks = false) (hRf : 16 ≤ R.frames) (hRl : 256 ≤ R.locals) (hr : (rest.map fun v => v.category).sum ≤ 8) {ix w a b : Nat} (ha3 : a < 3) (hB : thrB q pc ix w a b = true) (hd : decode q.bytes pc = .ok (.new ix, 3)) (hc1 : cells + 1 ≤ R.cells) (hc2 : slots + 6 ≤ R.slots)
    (hX : ∀ t : State, s.vm.Alike t.vm → H.size ≤ t.heap.size → (∀ z : Nat, z < H.size → t.heap[z]? = H[z]?) → XC (exN a) s t) (hf : ∀ z ∈ locs, free z.base) (hm1 : cells + 1 ≤ mc) (hm2 : slots + 6 ≤ ms) : W p l e R s m args below meth c H locs cells slots (vx_MQ below Qc XC args s mc ms free) (F0 m pc ls rest) := by
  unfold thrB at hB
  split at hB
  · rename_i k hk
    have hkm := List.mem_of_getElem? hk
    simp only [Bool.and_eq_true, decide_eq_true_eq] at hB
    obtain ⟨⟨⟨⟨⟨⟨h1, h2⟩, h3⟩, h4⟩, h5⟩, h6⟩, h7⟩ := hB
    obtain ⟨o1, o2, o3⟩ := XR_ok k hkm
    have hw := hSx.1.use (XR_in k hkm) rfl args
    unfold xrW at hw
    rw [h1, h2, h3] at hw
    obtain ⟨sa, hsa⟩ := hSx.2.2.1.2.2.2.2.2.2.1 k hkm
    rw [h1] at hsa
    rw [h3] at o2
    have hoq : q.own = "FishGrader" := h1.symm.trans o1
    have hat : ∀ w ∈ vx_atS q.own k.2.2.2.1 (exN a) xNames, w.before args s = true := by
      rw [hoq, o2]
      exact fun w hw => hSx.1.use (xW a ha3 w hw).1 (xW a ha3 w hw).2.1 args
    have hini : (Cond.initialized (exN a)).before args s = true := hSx.1.use (XI_in a h4) rfl args
    have hgood : ∀ w ∈ Cond.classLink q.own ix (exN a) :: Cond.initialized (exN a) :: vx_atS q.own k.2.2.2.1 (exN a) xNames, vx_ot w = true := by
      intro w hw
      rcases List.mem_cons.mp hw with rfl | hw
      · rfl
      · rcases List.mem_cons.mp hw with rfl | hw
        · rfl
        · rw [hoq, o2] at hw
          exact (xW a ha3 w hw).2.2
    have hfit : Bundle.fit (exN a) = true := by
      rcases (show a = 0 ∨ a = 1 ∨ a = 2 ∨ a = 3 by omega) with rfl | rfl | rfl | rfl <;> decide +kernel
    have hnm : ∀ n ∈ xNames, Bundle.fit n = true := by decide +kernel
    have hU := hSx.2.2.1.2.2.2.2.2.1
    by_cases hbz : b = 0
    · rw [if_pos hbz] at h7
      simp only [Bool.and_eq_true, decide_eq_true_eq] at h7
      exact vx_throwS hx hb hl hown hfit hnm hw hini hsa hat hgood hU.1 hU.2 hS hsize hd h5 h7.1.1 h7.1.2 h7.2 (fun x hx => (htab x hx).elim) (by show 2 + 3 < R.frames; omega) (by show _ + (13 * (2 + 1) + 43) ≤ _; omega) hc1 hc2 hlk hX hf hm1 hm2
    · rw [if_neg hbz] at h7
      simp only [Bool.and_eq_true, decide_eq_true_eq] at h7
      exact vx_throwSW hx hb hl hown hfit hnm hw hini hsa hat hgood hU.1 hU.2 hS hsize hd h5 h7.1.1 h7.1.2 h7.2 (fun x hx => (htab x hx).elim) (by show 2 + 3 < R.frames; omega) (by show _ + (13 * (2 + 1) + 43) ≤ _; omega) hc1 hc2 hlk hX hf hm1 hm2
  · cases hB
/-- the same for the fourth exception, whose constructor has another link (proved apart) -/
def Thr3 (l : Launch) (G : Gx) : Prop := ∀ {p : Program} {e : Env} {R : Room} {s : State} {m : MethodId} {args : Array Value} {below : List Frame} {meth : Method} {c : Code} {H : Heap} {locs : List Loc} {cells slots : Nat} {q : MIt} {pc : Nat} {ls : Array Slot} {rest : List Value} {Qc : Array Value → State → Outcome → State → Prop} {XC : String → State → State → Prop} {mc ms : Nat} {free : Addr → Prop} (hx : p.tables.exec = Jvm.exec) (hb : c.code = q.bytes) (hown : s.vm.findClass q.own = some m.cls) (hSx : Sx G s) (hS : va_S (Aq G) s.heap H locs) (hsize : ls.size = c.maxLocals) (htab : ∀ x ∈ c.exceptionTable.toList, False) (hlk : meth.locks = false) (hRf : 16 ≤ R.frames) (hRl : 256 ≤ R.locals) (hr : (rest.map fun v => v.category).sum ≤ 8) {ix w b : Nat} (hB : thrB q pc ix w 3 b = true) (hd : decode q.bytes pc = .ok (.new ix, 3)) (hc1 : cells + 1 ≤ R.cells) (hc2 : slots + 6 ≤ R.slots)     (hX : ∀ t : State, s.vm.Alike t.vm → H.size ≤ t.heap.size → (∀ z : Nat, z < H.size → t.heap[z]? = H[z]?) → XC (exN 3) s t) (hf : ∀ z ∈ locs, free z.base) (hm1 : cells + 1 ≤ mc) (hm2 : slots + 6 ≤ ms), W p l e R s m args below meth c H locs cells slots (vx_MQ below Qc XC args s mc ms free) (F0 m pc ls rest)
-- ===== contracts =====
def QcC (G : Gx) (φ : Nat → Nat) (h : Mm) (o : Out) (h' : Mm) : Array Value → State → Outcome → State → Prop := fun _ st oc t => ∃ (v : Option Value) (φ' : Nat → Nat), o = .inl v ∧ oc = .returned (v.map (cv φ')) ∧ (∀ i, i < h.sz → φ' i = φ i) ∧ Wp G φ' h' t.heap ∧ va_F (Aq G) st t
def XcC (G : Gx) (φ : Nat → Nat) (h : Mm) (o : Out) (h' : Mm) : String → State → State → Prop := fun E st t => o = .inr E ∧ ∃ φ' : Nat → Nat, (∀ i, i < h.sz → φ' i = φ i) ∧ Wp G φ' h' t.heap ∧ va_F (Aq G) st t
def rmC (lv : Nat) (h h' : Mm) : Room := { frames := 16 + lv, locals := 256 + 64 * lv, cells := h'.nc - h.nc, slots := h'.ns - h.ns }
def PcC (G : Gx) (φ : Nat → Nat) (h : Mm) (as : List Value) : Array Value → State → Prop := va_Pc (as.map (cv φ)) (fun U => UR G φ h U)
def Ct (l : Launch) (G : Gx) (z : Nat) (as : List Value) (h : Mm) (o : Out) (h' : Mm) : Prop := ∀ q, MI[z]? = some q → ∀ φ, vx_Met l q.1 [miC (q, z)] (rmC q.lev h h') (PcC G φ h as) (QcC G φ h o h') (XcC G φ h o h') (h'.nc - h.nc) (h'.ns - h.ns) (Aq G)
theorem PcC_blind {as : List Value} : FrameBlind (PcC G φ h as) := fun a U g mk hp => ⟨hp.1, Sx.go (s := U) (State.WarmedH.refl U) (Nat.le_refl _) (fun _ _ _ => rfl) hp.2.1, hp.2.2⟩
theorem PcC_at {as : List Value} (hSx : Sx G s) (hP : Wp G φ h H) (hS : va_S (Aq G) s.heap H locs) {U : State} (hU : U.heap = H) (hW : s.WarmedH U.vm) : PcC G φ h as (as.map (cv φ)).toArray U := ⟨rfl, Sx.go hW (by rw [hU]; exact hS.1) (fun a h1 h2 => by rw [hU]; exact hS.2.1 a h1 h2) hSx, by rw [hU]; exact hP⟩
/-- behind a call -/
theorem snd_ret {o : Out} {h2 : Mm} {mc ms : Nat} {st0 : List Value} {asA : Array Value} (hr : vx_Run p l e R s m args below meth c H locs cells slots mc ms (F0 m pc ls st0) rest (QcC G φ h o h2 asA) (XcC G φ h o h2) (Aq G)) (hS : va_S (Aq G) s.heap H locs)
    (kk : ∀ (v : Option Value) (φ' : Nat → Nat) (H1 : Heap) (locs1 : List Loc), o = .inl v → (∀ i, i < h.sz → φ' i = φ i) → Wp G φ' h2 H1 → va_S (Aq G) s.heap H1 locs1 → W p l e R s m args below meth c H1 locs1 (cells + mc) (slots + ms) Q (F0 m (pc + 3) ls ((v.map (cv φ')).toList ++ rest)))
    (kx : ∀ (E : String) (ce : Cell) (z : Addr) (φ' : Nat → Nat) (H1 : Heap) (locs1 : List Loc), o = .inr E → (∀ i, i < h.sz → φ' i = φ i) → Wp G φ' h2 H1 → va_S (Aq G) s.heap H1 locs1 → H1[z]? = some ce → ce.vm = .none → s.vm.findClass E = some ce.cls → vx_W p l e R s m args below meth c H1 locs1 (cells + mc) (slots + ms) Q (F0 m pc ls rest) z) : W p l e R s m args below meth c H locs cells slots Q (F0 m pc ls st0) := by
  intro T hT X
  rcases hr T hT X with ⟨v, st₀, t, T', L, h0, X', hL, e1, e2, ⟨v', φ', ho, hv, hext, hP, hF⟩, st⟩ | ⟨z, st₀, t, T', L, E, ce, h0, X', hL, e1, e2, ⟨ho, φ', hext, hP, hF⟩, hce, hcv, hcl, st⟩
  · cases hv
    obtain ⟨k1, k2, k3⟩ := vx_keep (A1 := Aq G) h0 e1 hS (fun _ _ h => h) (fun _ h => h) hL hF
    obtain ⟨t2, a1, b1⟩ := kk v' φ' T'.heap (locs ++ L) ho hext (by rw [e1]; exact hP) k3 T' rfl X'
    exact ⟨t2, st t2 a1, b1⟩
  · obtain ⟨k1, k2, k3⟩ := vx_keep (A1 := Aq G) h0 e1 hS (fun _ _ h => h) (fun _ h => h) hL hF
    obtain ⟨t2, a1, b1⟩ := kx E ce z φ' T'.heap (locs ++ L) ho hext (by rw [e1]; exact hP) k3 (by rw [e1]; exact hce) hcv hcl T' rfl X'
    exact ⟨t2, st.trans a1, b1⟩
end SNDC
