-- ===== every run is sound =====
/-- the program's blocks are the code's -/
def okP (P : Pg) : Prop := (∀ y q, MI[y]? = some q → P.2.1 y = q.ret ∧ P.2.2.1 y = hdOf y ∧ P.2.2.2 y = q.maxL) ∧ (∀ y, P.1 y 99999 = ([], 99999)) ∧ ∀ y q pc, MI[y]? = some q → rowsB q pc (P.1 y pc).1 (P.1 y pc).2 = true ∧ rowsC y pc (P.1 y pc).1 = true
theorem run_none {P : Pg} (hP : okP P) : ∀ {n y : Nat} {L : Lc} {st : List Value} {h : Mm}, run P n y [] 99999 L st h = none := by
  intro n
  induction n with
  | zero => intros; rfl
  | succ n ih =>
    intro y L st h
    show run P n y (P.1 y 99999).1 (P.1 y 99999).2 L st h = none
    rw [hP.2.1 y]
    exact ih
theorem asc_entL {φ : Nat → Nat} : ∀ {as : List Value} {k : Nat}, ∀ q ∈ ascF φ k (entL as), q ∈ lv_args k (as.map (cv φ)) := by
  intro as
  induction as with
  | nil => intro k q hq; cases hq
  | cons v t ih =>
    intro k q hq
    cases v
    all_goals
      rcases List.mem_cons.mp hq with e | hq'
      · rw [e]; exact List.mem_cons_self
      · exact List.mem_cons_of_mem _ (ih q hq')
theorem sl_len {φ : Nat → Nat} : ∀ {as : List Value}, (lg_sl (as.map (cv φ))).length = catS as := by
  intro as
  induction as with
  | nil => rfl
  | cons v t ih =>
    have h1 : lg_sl ((v :: t).map (cv φ)) = (if (cv φ v).category = 2 then [.val (cv φ v), .second] else [.val (cv φ v)]) ++ lg_sl (t.map (cv φ)) := rfl
    rw [h1, List.length_append, ih, catS]
    congr 1
    cases v <;> rfl
theorem lvR_entry {φ : Nat → Nat} {as : List Value} {n : Nat} (h : catS as ≤ n) : lvR φ ((lg_sl (as.map (cv φ)) ++ List.replicate (n - (lg_sl (as.map (cv φ))).length) Slot.unset).toArray) n (entL as) := by
  obtain ⟨h1, h2, h3⟩ := lv_entry (as.map (cv φ)) (n := n) (by rw [sl_len]; exact h)
  exact ⟨h1, h2, fun q hq => h3 q (asc_entL q hq)⟩
def Hg (l : Launch) (G : Gx) (P : Pg) : Prop := stT G.2.2.2.2 ∧ stC G.2.2.2.2 ∧ stB8 G.2.2.2.2 ∧ l.stackTraces = false ∧ Thr3 l G ∧ (∀ e ∈ SR, e.2.2.2 < nS) ∧ (∀ e ∈ sFld, okV nS e.2.2.2) ∧ annP P ∧ okP P
def Abody (l : Launch) (G : Gx) (P : Pg) (n : Nat) : Prop := ∀ (y : Nat) (q : MIt), MI[y]? = some q → ∀ (rs : List Rw) (pc fin : Nat), rowsB q pc rs fin = true → rowsC y pc rs = true → (∀ r ∈ rs, annV r) → ∀ (L : Lc) (st : List Value) (h : Mm) (oF : Out) (hF : Mm), run P n y rs fin L st h = some (oF, hF) → okM G.2.2.2.2 h → okL h.sz L → okS h.sz st →
  ∀ (p : Program) (e : Env) (R : Room) (s : State) (m : MethodId) (args : Array Value) (below : List Frame) (meth : Method) (c : Code) (Q : State → Prop) (c0 s0 z0 : Nat) (φ0 : Nat → Nat), Bx G y q p R s m meth c → c0 ≤ h.nc → s0 ≤ h.ns → z0 ≤ h.sz → hF.nc - c0 ≤ R.cells → hF.ns - s0 ≤ R.slots → FIN G p l e R s m args below meth c Q q c0 s0 z0 φ0 oF hF → Gd G p l e R s m args below meth c Q q.maxL c0 s0 z0 φ0 pc L st h
theorem fin_of {G : Gx} {p : Program} {l : Launch} {e : Env} {R : Room} {s : State} {m : MethodId} {args : Array Value} {below : List Frame} {meth : Method} {c : Code} {q : MIt} {φ : Nat → Nat} {h h' : Mm} {o : Out} (hx : p.tables.exec = Jvm.exec) (hb : c.code = q.bytes) (hrt : meth.sig.returnType = q.ret) (hlk : meth.locks = false) : FIN G p l e R s m args below meth c (vx_MQ below (QcC G φ h o h') (XcC G φ h o h') args s (h'.nc - h.nc) (h'.ns - h.ns) (Aq G)) q h.nc h.ns h.sz φ o h' := by
  cases o with
  | inl v =>
    intro φ' H locs pc ls ins hex hP hS hd hr
    have hq : ∀ t : State, t.heap = H → s.WarmedH t.vm → QcC G φ h (.inl v) h' args s (.returned (v.map (cv φ'))) t := fun t ht _ => ⟨v, φ', rfl, rfl, hex, by rw [ht]; exact hP, hS.F ht⟩
    have hf : ∀ z ∈ locs, Aq G z.base := hS.2.2
    refine vx_ret ?_
    cases v with
    | none =>
      obtain ⟨rfl, hn⟩ := hr
      exact W.vret hx hb (hrt.trans hn) hq hf hd hlk
    | some v =>
      cases v with
      | int x =>
        obtain ⟨rfl, t, ht, hf2⟩ := hr
        exact W.zret hx hb (hrt.trans ht) (nar_fit hf2) hq hf hd hlk
      | long x =>
        obtain ⟨rfl, ht⟩ := hr
        exact W.lret hx hb (hrt.trans ht) hq hf hd hlk
      | ref x =>
        obtain ⟨rfl, t, ht, hk⟩ := hr
        exact W.aret hx hb (hrt.trans ht) hk (Or.inr ⟨φ' x, rfl⟩) hq hf hd hlk
      | _ => exact hr.elim
  | inr E => exact ⟨_, _, _, _, _, rfl, Nat.le_refl _, Nat.le_refl _, fun _ h => h, fun φ' t hex hP hF => ⟨rfl, φ', hex, hP, hF⟩⟩
theorem ct_of {l : Launch} {G : Gx} {P : Pg} (hg : Hg l G P) {n : Nat} (hA : Abody l G P n) {z : Nat} {as : List Value} {h : Mm} {o : Out} {h' : Mm} (hcat : catS as ≤ P.2.2.2 z) (hrun : run P n z (P.1 z 0).1 (P.1 z 0).2 (entL as) [] h = some (o, h')) (hM : okM G.2.2.2.2 h) (hS : okS h.sz as) : Ct l G z as h o h' := by
  intro q hq φ
  obtain ⟨hT, hC, hTb, hl3, h3, hN1, hN2, hP1, hP2⟩ := hg
  obtain ⟨k1, k2, k3⟩ := hP2.1 z q hq
  obtain ⟨b1, b2⟩ := hP2.2.2 z q 0 hq
  obtain ⟨p1, p2, p3, p4, p5⟩ := MI_pl q (List.mem_of_getElem? hq)
  have hbody : ∀ (p : Program) (e : Env) (s : State) (m : MethodId) (args : Array Value) (below : List Frame) (meth : Method) (c : Code), Bx G z q p (rmC q.lev h h') s m meth c → PcC G φ h as args s → W p l e (rmC q.lev h h') s m args below meth c s.heap [] 0 0 (vx_MQ below (QcC G φ h o h') (XcC G φ h o h') args s (h'.nc - h.nc) (h'.ns - h.ns) (Aq G)) (entryFrame m args q.maxL) := by
    intro p e s m args below meth c hB hp
    obtain ⟨rfl, hSx, hPw⟩ := hp
    have hk := hA z q hq _ 0 _ b1 b2 (hP1 z 0) (entL as) [] h o h' hrun hM (entL_ok hS) okS_nil p e (rmC q.lev h h') s m (as.map (cv φ)).toArray below meth c _ h.nc h.ns h.sz φ hB (Nat.le_refl _) (Nat.le_refl _) (Nat.le_refl _) (Nat.le_refl _) (Nat.le_refl _) (fin_of hB.1 hB.2.1 hB.2.2.2.2.2.2.1 hB.2.2.2.2.2.1)
    have := hk φ s.heap [] _ (fun _ _ => rfl) hPw va_S.rf (lvR_entry (n := q.maxL) (by rw [← k3]; exact hcat))
    rw [Nat.sub_self, Nat.sub_self] at this
    rw [lg_entry_eq]
    exact this
  have hfr : 16 + q.lev ≤ (rmC q.lev h h').frames := Nat.le_refl _
  have hlo : 256 + 64 * q.lev ≤ (rmC q.lev h h').locals := Nat.le_refl _
  by_cases hk3 : q.kind = 3
  · rw [miC_with hk3]
    refine vx_ofWH (hh := hhOf z) p1 rfl ?_
    intro p e s m args below meth c s₁ B hml hp
    have hcw : (Cond.codeWith q.1 q.bytes q.maxL q.ret (hhOf z)).before args s = true := atoms_spec (ws := [Cond.codeWith q.1 q.bytes q.maxL q.ret (hhOf z)]) B.pre _ List.mem_cons_self
    refine hbody p e s m args below meth c ⟨B.exec, B.bytes, hml, findClass_of_methodNamed B.named, hp.2.1, B.notSynchronized, B.returns, fun h2 => ?_, vx_table (x := q.1) B hcw, hfr, hlo⟩ hp
    rw [hk3] at h2; cases h2
  · rw [miC_code hk3]
    refine vx_ofW p1 rfl ?_
    intro p e s m args below meth c s₁ B hml ht hp
    refine hbody p e s m args below meth c ⟨B.exec, B.bytes, hml, findClass_of_methodNamed B.named, hp.2.1, B.notSynchronized, B.returns, fun h2 => ?_, ?_, hfr, hlo⟩ hp
    · exact ((name_of_methodNamed B.named B.method).1).trans (p4 h2)
    · unfold hhOf
      rw [hh_kind hq hk3]
      cases hl : c.exceptionTable.toList with
      | nil => rfl
      | cons a b => exact (ht a (by rw [hl]; exact List.mem_cons_self)).elim
theorem sound {l : Launch} {G : Gx} {P : Pg} (hg : Hg l G P) : ∀ n, Abody l G P n := by
  intro n
  induction n with
  | zero => intro y q hq rs pc fin _ _ _ L st h oF hF hrun; cases hrun
  | succ n ih =>
    intro y q hq rs pc fin hrB hrC ha L st h oF hF hrun hM hL hS p e R s m args below meth c Q c0 s0 z0 φ0 hB h1 h2 h3 h4 h5 hfin
    obtain ⟨hT, hC, hTb, hl3, hTh, hN1, hN2, hP1, hP2⟩ := id hg
    have hle := (run_ok hT hTb hP1 ha hM hL hS hrun).2.2
    cases rs with
    | nil =>
      have hrun : run P n y (P.1 y fin).1 (P.1 y fin).2 L st h = some (oF, hF) := hrun
      unfold rowsB at hrB
      simp only [Bool.or_eq_true, decide_eq_true_eq] at hrB
      rcases hrB with e1 | e1
      · subst e1
        obtain ⟨b1, b2⟩ := hP2.2.2 y q fin hq
        exact ih y q hq _ fin _ b1 b2 (hP1 y fin) L st h oF hF hrun hM hL hS p e R s m args below meth c Q c0 s0 z0 φ0 hB h1 h2 h3 h4 h5 hfin
      · subst e1
        rw [hP2.2.1 y, run_none hP2] at hrun
        cases hrun
    | cons r rs =>
      unfold rowsB at hrB
      unfold rowsC at hrC
      rw [Bool.and_eq_true] at hrB hrC
      have hra := ha r List.mem_cons_self
      have ha' : ∀ r ∈ rs, annV r := fun r hr => ha r (List.mem_cons_of_mem _ hr)
      have hok := eff_ok hT hTb (rt := q.ret) hra hM hL hS
      have e1 : bindE (eff (P.2.1 y) r L st h) (fun L st h => run P n y rs fin L st h) (fun pc L st h => run P n y (P.1 y pc).1 (P.1 y pc).2 L st h) (fun z as h => if catS as ≤ P.2.2.2 z then run P n z (P.1 z 0).1 (P.1 z 0).2 (entL as) [] h else none) (P.2.2.1 y) = some (oF, hF) := hrun
      obtain ⟨k1, k2, k3⟩ := hP2.1 y q hq
      rw [k1, k2] at e1
      refine snd_ins hT hC hTb hl3 hTh hN1 hN2 hq hB hrB.1 hrC.1 hM hL hS h1 h2 h3 h4 h5 hle hfin ?_
      generalize eff q.ret r L st h = ef at hok e1 ⊢
      rcases ef with (_ | ⟨o1, m1⟩) | ⟨L1, st1, m1⟩ | ⟨pc', L1, st1, m1⟩ | ⟨z, as, L1, st1, m1⟩
      · cases e1
      · cases e1; exact ⟨rfl, rfl⟩
      · obtain ⟨q1, q2, q3, q4⟩ := hok
        refine ⟨?_, (run_ok hT hTb hP1 ha' q3 q1 q2 e1).2.2⟩
        have n1 := q4.1
        have n2 := q4.2.1
        have n3 := q4.2.2.1
        exact ih y q hq rs r.2.1 fin hrB.2 hrC.2 ha' L1 st1 m1 oF hF e1 q3 q1 q2 p e R s m args below meth c Q c0 s0 z0 φ0 hB (by omega) (by omega) (by omega) h4 h5 hfin
      · obtain ⟨q1, q2, q3, q4⟩ := hok
        refine ⟨?_, (run_ok hT hTb hP1 (hP1 y pc') q3 q1 q2 e1).2.2⟩
        have n1 := q4.1
        have n2 := q4.2.1
        have n3 := q4.2.2.1
        obtain ⟨b1, b2⟩ := hP2.2.2 y q pc' hq
        exact ih y q hq _ pc' _ b1 b2 (hP1 y pc') L1 st1 m1 oF hF e1 q3 q1 q2 p e R s m args below meth c Q c0 s0 z0 φ0 hB (by omega) (by omega) (by omega) h4 h5 hfin
      · obtain ⟨rfl, q1, q2, q3⟩ := hok
        simp only [bindE] at e1
        have hcm : catS as ≤ P.2.2.2 z := by
          rcases Nat.lt_or_ge (P.2.2.2 z) (catS as) with hcm | hcm
          · rw [if_neg (Nat.not_le.mpr hcm)] at e1; cases e1
          · exact hcm
        rw [if_pos hcm] at e1
        cases hcr : run P n z (P.1 z 0).1 (P.1 z 0).2 (entL as) [] m1 with
        | none => rw [hcr] at e1; cases e1
        | some t =>
          rw [hcr] at e1
          obtain ⟨o2, m2⟩ := t
          obtain ⟨c1, c2, c3⟩ := run_ok hT hTb hP1 (hP1 z 0) hM (entL_ok q1) okS_nil hcr
          have n1 := c3.1
          have n2 := c3.2.1
          have n3 := c3.2.2.1
          have hct := ct_of hg ih hcm hcr hM q1
          rcases o2 with (_ | v) | E
          · refine ⟨_, m2, hct, c3, (run_ok hT hTb hP1 ha' c2 (q2.mono n1) (q3.mono n1) e1).2.2, c1, ?_⟩
            exact ih y q hq rs r.2.1 fin hrB.2 hrC.2 ha' L1 st1 m2 oF hF e1 c2 (q2.mono n1) (q3.mono n1) p e R s m args below meth c Q c0 s0 z0 φ0 hB (by omega) (by omega) (by omega) h4 h5 hfin
          · have hSv := okS_c (c1.1 v rfl) (q3.mono n1)
            refine ⟨_, m2, hct, c3, (run_ok hT hTb hP1 ha' c2 (q2.mono n1) hSv e1).2.2, c1, ?_⟩
            exact ih y q hq rs r.2.1 fin hrB.2 hrC.2 ha' L1 (v :: st1) m2 oF hF e1 c2 (q2.mono n1) hSv p e R s m args below meth c Q c0 s0 z0 φ0 hB (by omega) (by omega) (by omega) h4 h5 hfin
          · cases hh : hdOf y E with
            | none =>
              simp only [hh] at e1
              cases e1
              refine ⟨_, _, hct, c3, leM.rf, c1, ?_⟩
              first | (simp only [hh]; exact ⟨rfl, rfl⟩) | (simp only [hh]; exact ⟨trivial, trivial⟩) | simp [hh]
            | some t2 =>
              simp only [hh] at e1
              obtain ⟨pc', n'⟩ := t2
              obtain ⟨b1, b2⟩ := hP2.2.2 y q pc' hq
              refine ⟨_, m2, hct, c3, (run_ok hT hTb hP1 (hP1 y pc') c2 (catL_ok (q2.mono n1)) okS_nil e1).2.2, c1, ?_⟩
              simp only [hh]
              exact ih y q hq _ pc' _ b1 b2 (hP1 y pc') (catL L1 n') [] m2 oF hF e1 c2 (catL_ok (q2.mono n1)) okS_nil p e R s m args below meth c Q c0 s0 z0 φ0 hB (by omega) (by omega) (by omega) h4 h5 hfin
