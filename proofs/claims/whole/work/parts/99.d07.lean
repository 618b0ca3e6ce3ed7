-- ===== the claim out of one walk of the law =====
def R_law : String := "FishGraderLaw"
def lw_P (b : Addr) (xs : List Int32) (args : Array Value) (s : State) : Prop := args = #[.ref b] ∧ s.IntsAt b xs ∧ xs.length ≤ 3072 ∧ (Jvm.Cond.and given_1 narrow_1).before args s = true
def lw_Q (_ : Array Value) (s : State) (o : Outcome) (t : State) : Prop := o = .returned (some (.int 1)) ∧ Framed s o t [] 601024 7293034
def lw_Z (below : List Frame) (a : Array Value) (s : State) : State → Prop := fun t => ∃ o, t.status = .running ∧ Ended t below o ∧ lw_Q a s o t
/-- the law's own end, with 1 on the stack, nothing written that was there before, its room as the claim has it -/
theorem lw_ret {p : Program} {l : Launch} {e : Env} {s : State} {m : MethodId} {below : List Frame} {meth : Method} {c : Code} {b : Nat} (hx : p.tables.exec = Jvm.exec) (hb : c.code = code) (hr : meth.sig.returnType = ret) (hlocks : meth.locks = false) {pc : Nat} {H : Heap} {ls : Array Slot} (hdg : decode code pc = .ok (.ireturn, 1)) : W p l e room_1 s m #[Value.ref b] below meth c H [] 601024 7293034 (lw_Z below #[Value.ref b] s) (F0 m pc ls [.int 1]) := by
  intro T hT X
  obtain ⟨fs, hret, hrun, hended, hW, hframe⟩ := X.leave (v := some (.int 1)) (hlocks := hlocks) (fun h => by rw [hr] at h; cases h)
  have hmeth' : T.vm.method? m = some meth := X.method'
  refine ⟨T.setFrames fs, ?_, .returned (some (.int 1)), hrun, hended, rfl, ⟨_, rfl⟩, hW, hframe⟩
  jvm_step X.here [X.here.top, hx, hb, hdg, hmeth', hr, ret, narrow_b1]
  (try refine ⟨rfl, ?_⟩); (try refine ⟨rfl, ?_⟩)
  first | (intro acts; rw [hret _ acts rfl rfl rfl]) | rw [hret _ _ rfl rfl rfl]
  exact Steps.refl _
/-- what holds at the law's entry: the machine, the code, the tables' words (any of lw_tbl by 'hts w (by decide +kernel)'), the script of L ints xs at the cell b, what the Statement gives of the start (any of its parts by flat_of_before) -/
def lw_At (p : Program) (s : State) (m : MethodId) (meth : Method) (c : Code) (b L : Nat) (xs : Nat → Int32) : Prop :=
  p.tables.exec = Jvm.exec ∧ c.code = code ∧ meth.sig.returnType = ret ∧ c.maxLocals = 7 ∧ s.vm.findClass R_law = some m.cls ∧ (∀ w ∈ lw_tbl, w.before #[Value.ref b] s = true) ∧ va_X b L xs s s.heap ∧ b < s.heap.size ∧ meth.locks = false ∧ (Jvm.Cond.and given_1 narrow_1).before #[Value.ref b] s = true
theorem z_sr : ∀ e ∈ SR, e.2.2.2 < nS := by decide +kernel
theorem z_sfl : ∀ e ∈ sFld, (match e.2.2.2 with | .ref i => decide (i < 200) | _ => true) = true := by decide +kernel
theorem z_sfv : ∀ e ∈ sFld, okV nS e.2.2.2 := fun e he i hi => by
  have h := z_sfl e he
  rw [hi] at h
  exact of_decide_eq_true h
theorem z_hg {l : Launch} (hflags : l.flags = flags0) {G : Gx} {L : Nat} {xs : Nat → Int32} (hG : G.2.2.2.2 = zT L xs) : Hg l G PG := by
  have ht : l.stackTraces = false := by
    unfold Launch.stackTraces
    rw [hflags]
    decide
  refine ⟨?_, ?_, ?_, ht, thr3 ht, z_sr, z_sfv, PG_ann, PG_ok⟩
  · rw [hG]
    exact z_stT
  · rw [hG]
    exact z_stC
  · rw [hG]
    exact z_stB
/-- from the entry, for every script of at most 3072 ints, the law comes to its end with true -/
theorem whole_start {p : Program} {e : Env} {s : State} {m : MethodId} {below : List Frame} {meth : Method} {c : Code} (l : Launch) (hflags : l.flags = flags0) {b L : Nat} {xs : Nat → Int32} (hL : L ≤ 3072) (C0 : lw_At p s m meth c b L xs) (htb : ∀ x ∈ c.exceptionTable.toList, False) : W p l e room_1 s m #[Value.ref b] below meth c s.heap [] 0 0 (lw_Z below #[Value.ref b] s) (entryFrame m ([Value.ref b] : List Value).toArray 7) := by
  obtain ⟨hx, hb, hr, hml, hown, hts, hX, hbl, hlk, hg⟩ := C0
  obtain ⟨G, g1, g2, g3, hSx⟩ := z_sx hL hts hX hg
  obtain ⟨h2, hrun, n1, n2⟩ := law_all (h := z0 L xs) (sc := 94) (len := L) rfl rfl rfl (z_sta hL)
  have hrun : dn PG 0 (PG.1 0 0).1 (PG.1 0 0).2 [some (.ref 94)] [] (z0 L xs) = some (.inl (some (.int 1)), h2) := hrun
  obtain ⟨n, hrun⟩ := dn_iff.mp hrun
  have hg0 : Hg l G PG := z_hg hflags g2
  obtain ⟨q, hq, hqe⟩ : ∃ q : MIt, MI[0]? = some q ∧ q = (⟨"FishGraderLaw", "law", "([I)Z"⟩, code, 7, (some .boolean), 12, 1, 0, 1) := ⟨_, rfl, rfl⟩
  have q1 : q.bytes = code := by rw [hqe]
  have q2 : q.maxL = 7 := by rw [hqe]
  have q3 : q.own = R_law := by rw [hqe]; rfl
  have q4 : q.ret = ret := by rw [hqe]; rfl
  have q5 : q.kind = 1 := by rw [hqe]
  have q6 : q.lev = 12 := by rw [hqe]
  obtain ⟨b1, b2⟩ := PG_ok.2.2 0 q 0 hq
  have hM : okM G.2.2.2.2 (z0 L xs) := by rw [g2]; exact z_ok
  have hT : c.exceptionTable.toList = tableOf (hhOf 0) := by
    have e0 : hhOf 0 = [] := by decide +kernel
    rw [e0]
    cases hl : c.exceptionTable.toList with
    | nil => rfl
    | cons x y => exact (htb x (by rw [hl]; exact List.mem_cons_self)).elim
  have hB : Bx G 0 q p room_1 s m meth c := ⟨hx, by rw [q1]; exact hb, by rw [q2]; exact hml, by rw [q3]; exact hown, hSx, hlk, by rw [q4]; exact hr, (fun h => by rw [q5] at h; cases h), hT, by rw [q6]; decide, by rw [q6]; decide⟩
  have hw : wsM G G.2.2.2.1 (z0 L xs) = [] := List.eq_nil_of_length_eq_zero (by rw [wsM_len]; exact Nat.sub_eq_zero_of_le (Nat.le_refl 200))
  have hWp : Wp G G.2.2.2.1 (z0 L xs) s.heap := by
    refine ⟨fun k x e => ?_, ⟨fun i j x y e => ?_, fun k x e => ?_⟩, fun i _ => rfl⟩
    · rw [hw, List.getElem?_nil] at e
      cases e
    · rw [hw, List.getElem?_nil] at e
      cases e
    · rw [hw, List.getElem?_nil] at e
      cases e
  have hfin : FIN G p l e room_1 s m #[Value.ref b] below meth c (lw_Z below #[Value.ref b] s) q 0 0 200 G.2.2.2.1 (.inl (some (.int 1))) h2 := by
    intro φ H locs pc ls ins hex hP hS hd hri
    obtain ⟨rfl, -⟩ := hri
    rw [q1] at hd
    refine va_forget (fun z hz => ?_) (W.widen (k := 601024) (n := 7293034) (by omega) (by omega) (lw_ret hx hb hr hlk hd))
    have := hS.2.2 z hz
    unfold Aq at this
    rw [g1] at this
    exact this
  have hk := sound hg0 n 0 q hq _ 0 _ b1 b2 (PG_ann 0 0) [some (.ref 94)] [] (z0 L xs) (.inl (some (.int 1))) h2 hrun hM (okL_c (okL_some (okV_ref (show 94 < 200 by decide))) okL_nil) okS_nil p e room_1 s m #[Value.ref b] below meth c (lw_Z below #[Value.ref b] s) 0 0 200 G.2.2.2.1 hB (Nat.zero_le _) (Nat.zero_le _) (Nat.le_refl _) (by show h2.nc - 0 ≤ 601024; omega) (by show h2.ns - 0 ≤ 7293034; omega) hfin
  have hw9 := hk G.2.2.2.1 s.heap [] _ (fun _ _ => rfl) hWp va_S.rf (lvR_entry (φ := G.2.2.2.1) (as := [.ref 94]) (n := q.maxL) (by rw [q2]; decide))
  have e9 : [Value.ref 94].map (cv G.2.2.2.1) = [Value.ref b] := by
    show [Value.ref (G.2.2.2.1 94)] = _
    rw [g3]
  rw [e9, q2] at hw9
  rw [lg_entry_eq]
  exact hw9
