-- ===== methods of the library that the machine has as single instructions =====
section SNDI
variable {p : Program} {l : Launch} {e : Env} {R : Room} {s : State} {m : MethodId} {args : Array Value} {below : List Frame} {meth : Method} {c : Code} {H : Heap} {locs : List Loc} {cells slots : Nat} {Q : State → Prop} {G : Gx} {φ : Nat → Nat} {h : Mm} {q : MIt} {pc : Nat} {ls : Array Slot} {rest : List Value}
theorem snd_min (hx : p.tables.exec = Jvm.exec) (hb : c.code = q.bytes) (hml : c.maxLocals = ls.size) (hown : s.vm.findClass q.own = some m.cls) (hSx : Sx G s) (hR1 : 1 ≤ R.frames) (hR2 : (rest.map fun v => v.category).sum + 13 ≤ R.locals) (hc : cells ≤ R.cells) (hs : slots ≤ R.slots) {ix w : Nat} {x y : Int32} (hB : IR[w]? = some (q.own, ix, 1)) (hd : decode q.bytes pc = .ok (.invokestatic ix, 3))
    (kk : W p l e R s m args below meth c H locs cells slots Q (F0 m (pc + 3) ls (.int (if y < x then y else x) :: rest))) : W p l e R s m args below meth c H locs cells slots Q (F0 m pc ls (.int y :: .int x :: rest)) :=
  va_mmin hx hb hml hown (hSx.1.use (IR_in _ (List.mem_of_getElem? hB)) rfl args) (hSx.1.use mI_min rfl args) (hSx.1.use mI_math rfl args) (hSx.1.use mC_min rfl args) hR1 hR2 hc hs hd kk
theorem snd_max (hx : p.tables.exec = Jvm.exec) (hb : c.code = q.bytes) (hml : c.maxLocals = ls.size) (hown : s.vm.findClass q.own = some m.cls) (hSx : Sx G s) (hR1 : 1 ≤ R.frames) (hR2 : (rest.map fun v => v.category).sum + 13 ≤ R.locals) (hc : cells ≤ R.cells) (hs : slots ≤ R.slots) {ix w : Nat} {x y : Int32} (hB : IR[w]? = some (q.own, ix, 2)) (hd : decode q.bytes pc = .ok (.invokestatic ix, 3))
    (kk : W p l e R s m args below meth c H locs cells slots Q (F0 m (pc + 3) ls (.int (if x < y then y else x) :: rest))) : W p l e R s m args below meth c H locs cells slots Q (F0 m pc ls (.int y :: .int x :: rest)) :=
  va_mmax hx hb hml hown (hSx.1.use (IR_in _ (List.mem_of_getElem? hB)) rfl args) (hSx.1.use mI_max rfl args) (hSx.1.use mI_math rfl args) (hSx.1.use mC_max rfl args) hR1 hR2 hc hs hd kk
theorem snd_minL (hx : p.tables.exec = Jvm.exec) (hb : c.code = q.bytes) (hml : c.maxLocals = ls.size) (hown : s.vm.findClass q.own = some m.cls) (hSx : Sx G s) (hR1 : 1 ≤ R.frames) (hR2 : (rest.map fun v => v.category).sum + 15 ≤ R.locals) (hc : cells ≤ R.cells) (hs : slots ≤ R.slots) {ix w : Nat} {x y : Int64} (hB : IR[w]? = some (q.own, ix, 3)) (hd : decode q.bytes pc = .ok (.invokestatic ix, 3))
    (kk : W p l e R s m args below meth c H locs cells slots Q (F0 m (pc + 3) ls (.long (if y < x then y else x) :: rest))) : W p l e R s m args below meth c H locs cells slots Q (F0 m pc ls (.long y :: .long x :: rest)) :=
  va_mmin_long hx hb hml hown (hSx.1.use (IR_in _ (List.mem_of_getElem? hB)) rfl args) (hSx.1.use mI_minL rfl args) (hSx.1.use mI_math rfl args) (hSx.1.use mC_minL rfl args) hR1 hR2 hc hs hd kk
theorem snd_obj (hx : p.tables.exec = Jvm.exec) (hb : c.code = q.bytes) (hsz : ls.size = c.maxLocals) (hown : s.vm.findClass q.own = some m.cls) (hSx : Sx G s) (hR1 : 1 ≤ R.frames) (hR2 : (rest.map fun v => v.category).sum + 12 ≤ R.locals) {ix w : Nat} {a : Addr} (hB : OI[w]? = some (q.own, ix)) (hd : decode q.bytes pc = .ok (.invokespecial ix, 3))
    (kk : W p l e R s m args below meth c H locs cells slots Q (F0 m (pc + 3) ls rest)) : W p l e R s m args below meth c H locs cells slots Q (F0 m pc ls (.ref a :: rest)) :=
  W.objInit (g := F0 m pc ls (.ref a :: rest)) hx hb hown (hSx.1.use (OI_in _ (List.mem_of_getElem? hB)) rfl args) (hSx.1.use oI_in rfl args) (hSx.1.use oI_code rfl args) rfl hsz rfl hd hR1 (by show 2 * 0 + _ + 12 ≤ _; omega) kk
/-- a call that changes nothing -/
theorem run_same {g : JFrame} {r : Option Value} (hr : va_Run p l e R s m args below meth c H locs cells slots 0 0 g rest (fun st oc t => oc = .returned r ∧ t.heap = st.heap) (fun _ => False)) (kk : W p l e R s m args below meth c H locs cells slots Q { g with pc := g.pc + 3, stack := r.toList ++ rest }) : W p l e R s m args below meth c H locs cells slots Q g := by
  intro T hT X
  obtain ⟨v, st₀, t, T', L, h0, X', hL, e1, e2, ⟨hv, hh⟩, st⟩ := hr T hT X
  cases hv
  have hL0 : L = [] := by
    cases L with
    | nil => rfl
    | cons a b => exact (hL a List.mem_cons_self).elim
  subst hL0
  rw [List.append_nil] at X'
  obtain ⟨t2, a1, b1⟩ := kk T' (by rw [e1, hh, h0]) X'
  exact ⟨t2, st t2 a1, b1⟩
end SNDI
abbrev yP : MethodName := ⟨"jdk/internal/util/Preconditions", "checkIndex", "(IILjava/util/function/BiFunction;)I"⟩
abbrev yK : MethodName := ⟨"java/lang/String", "checkIndex", "(II)V"⟩
theorem dP_0 : decode prog_40_method_11_code 0 = .ok (.iload_n 0, 1) := by decide +kernel
theorem dP_1 : decode prog_40_method_11_code 1 = .ok (.ifCond .lt 8, 3) := by decide +kernel
theorem dP_4 : decode prog_40_method_11_code 4 = .ok (.iload_n 0, 1) := by decide +kernel
theorem dP_5 : decode prog_40_method_11_code 5 = .ok (.iload_n 1, 1) := by decide +kernel
theorem dP_6 : decode prog_40_method_11_code 6 = .ok (.if_icmp .lt 10, 3) := by decide +kernel
theorem dP_16 : decode prog_40_method_11_code 16 = .ok (.iload_n 0, 1) := by decide +kernel
theorem dP_17 : decode prog_40_method_11_code 17 = .ok (.ireturn, 1) := by decide +kernel
theorem dK_0 : decode prog_28_method_155_code 0 = .ok (.iload_n 0, 1) := by decide +kernel
theorem dK_1 : decode prog_28_method_155_code 1 = .ok (.iload_n 1, 1) := by decide +kernel
theorem dK_2 : decode prog_28_method_155_code 2 = .ok (.getstatic 1053, 3) := by decide +kernel
theorem dK_5 : decode prog_28_method_155_code 5 = .ok (.invokestatic 1059, 3) := by decide +kernel
theorem dK_8 : decode prog_28_method_155_code 8 = .ok (.pop, 1) := by decide +kernel
theorem dK_9 : decode prog_28_method_155_code 9 = .ok (.return_, 1) := by decide +kernel
theorem c_pre (l : Launch) (i n : Int32) (fv : Value) (h0 : ¬ i < 0) (h1 : i < n) (hf : fv = .null ∨ ∃ a, fv = .ref a) : Met l yP [.code yP prog_40_method_11_code 3 (some .int)] ({ frames := 1, cells := 0, slots := 0, locals := 16 }) (va_Pc [.int i, .int n, fv] (fun _ => True)) (fun _ st oc t => oc = .returned (some (.int i)) ∧ t.heap = st.heap) 0 0 (fun _ => False) := by
  refine Met.ofW (cc := prog_40_method_11_code) (maxL := 3) (ret := some .int) (by decide) rfl ?_
  intro p e s m args below meth c s₁ B hml hv
  obtain ⟨rfl, -⟩ := hv
  have hx := B.exec
  have hb := B.bytes
  have hr := B.returns
  have hlocks := B.notSynchronized
  have hl : ∃ ls : Array Slot, entryFrame m ([Value.int i, .int n, fv] : List Value).toArray 3 = F0 m 0 ls [] ∧ lv_has ls 3 [(0, .int i), (1, .int n), (2, fv)] := by
    rcases hf with rfl | ⟨a, rfl⟩
    · exact ⟨_, lg_entry_eq m _ 3, lv_entry ([.int i, .int n, .null]) (n := 3) (Nat.le_of_ble_eq_true rfl)⟩
    · exact ⟨_, lg_entry_eq m _ 3, lv_entry ([.int i, .int n, .ref a]) (n := 3) (Nat.le_of_ble_eq_true rfl)⟩
  obtain ⟨ls, he, hl⟩ := hl
  rw [he]
  refine lv_iload_n hx hb dP_0 rfl (lv_at hl 0 rfl) ?_
  refine lv_if_lt (tgt := 9) hx hb dP_1 (by decide) (fun z => absurd z h0) (fun _ => ?_)
  refine lv_iload_n hx hb dP_4 rfl (lv_at hl 0 rfl) ?_
  refine lv_iload_n hx hb dP_5 rfl (lv_at hl 1 rfl) ?_
  refine lv_icmp_lt (tgt := 16) hx hb dP_6 (by decide) (fun _ => ?_) (fun z => absurd h1 z)
  refine lv_iload_n hx hb dP_16 rfl (lv_at hl 0 rfl) ?_
  exact W.iret hx hb hr (fun t ht _ => ⟨rfl, ht⟩) (fun _ h => nomatch h) dP_17 hlocks
set_option maxHeartbeats 2000000 in
theorem c_chk (l : Launch) (G : Gx) (i n : Int32) (h0 : ¬ i < 0) (h1 : i < n) : Met l yK [.code yK prog_28_method_155_code 2 none] ({ frames := 2, cells := 0, slots := 0, locals := 64 }) (va_Pc [.int i, .int n] (fun U => Sx G U)) (fun _ st oc t => oc = .returned none ∧ t.heap = st.heap) 0 0 (fun _ => False) := by
  refine Met.ofW (cc := prog_28_method_155_code) (maxL := 2) (ret := none) (by decide) rfl ?_
  intro p e s m args below meth c s₁ B hml hv
  obtain ⟨rfl, hSx⟩ := hv
  have hx := B.exec
  have hb := B.bytes
  have hr := B.returns
  have hlocks := B.notSynchronized
  have hown : s.vm.findClass "java/lang/String" = some m.cls := findClass_of_methodNamed B.named
  have hl := lv_entry ([.int i, .int n]) (n := 2) (Nat.le_of_ble_eq_true rfl)
  rw [lg_entry_eq]
  generalize (lg_sl ([.int i, .int n]) ++ List.replicate (2 - (lg_sl ([.int i, .int n])).length) Slot.unset).toArray = ls at hl ⊢
  have hl : lv_has ls 2 [(0, .int i), (1, .int n)] := hl
  refine lv_iload_n hx hb dK_0 rfl (lv_at hl 0 rfl) ?_
  refine lv_iload_n hx hb dK_1 rfl (lv_at hl 1 rfl) ?_
  have hlk := hSx.1.use cS_lk rfl #[Value.int i, Value.int n]
  have key : ∀ fv : Value, (fv = .null ∨ ∃ a, fv = .ref a) → va_Z "jdk/internal/util/Preconditions" "SIOOBE_FORMATTER" "Ljava/util/function/BiFunction;" fv (Aq G) s s.heap → W p l e (headSpec [Cond.code yK prog_28_method_155_code 2 none] { frames := 2, cells := 0, slots := 0, locals := 64 }).room s m [Value.int i, Value.int n].toArray below meth c s.heap [] 0 0 (MQ below (fun _ st oc t => oc = .returned none ∧ t.heap = st.heap) [Value.int i, Value.int n].toArray s 0 0 (fun _ => False)) (F0 m (0 + 1 + 1) ls [.int n, .int i]) := by
    intro fv hf hZ
    refine va_gets hx hb hZ va_S.rf hown hlk (fun _ h => h) dK_2 ?_
    refine run_same (r := some (.int i)) (va_runS (As := [.int i, .int n, fv]) (rest := []) (n := 3) (Ts := []) (own := "java/lang/String") (index := 1059) ⟨hx, hb, hml, hown, fun _ h => nomatch h⟩ (c_pre l i n fv h0 h1 hf) ⟨⟨rfl, rfl, Nat.le_of_ble_eq_true rfl, Nat.le_of_ble_eq_true rfl, ?_, List.mem_singleton.mpr rfl, hSx.1.use cP_code rfl _, hSx.1.use cP_ini rfl _, ⟨by decide, by decide⟩, ?_, hSx.1.use cP_lk rfl _⟩, hSx.1.use cP_st rfl _⟩ ⟨fun a U g mk hp => hp, fun U _ _ => ⟨rfl, trivial⟩⟩ rfl rfl hl.1 rfl (by show 2 * 0 + 0 ≤ 8; omega) dK_5 ⟨Nat.le_refl _, Nat.le_refl _⟩) ?_
    · intro w hw a' U hW
      rw [List.mem_singleton.mp hw]
      exact (hSx.1.warm hW).use cP_code rfl a'
    · intro sig hs
      have : parseMethodDescriptor yP.desc = some sig := hs
      have h2 : (parseMethodDescriptor yP.desc).map (fun d => d.parameters.length) = some 3 := by decide +kernel
      rw [this] at h2
      exact (Option.some.inj h2).symm
    · refine lv_pop hx hb dK_8 rfl ?_
      exact W.vret hx hb hr (fun t ht _ => ⟨rfl, ht⟩) (fun _ h => nomatch h) dK_9 hlocks
  rcases hSx.2.2.1.2.2.2.2.2.2.2.2.1 with hZ | ⟨a, hZ⟩
  · exact key _ (Or.inl rfl) hZ
  · exact key _ (Or.inr ⟨a, rfl⟩) hZ
section SNDI2
variable {p : Program} {l : Launch} {e : Env} {R : Room} {s : State} {m : MethodId} {args : Array Value} {below : List Frame} {meth : Method} {c : Code} {H : Heap} {locs : List Loc} {cells slots : Nat} {Q : State → Prop} {G : Gx} {φ : Nat → Nat} {h : Mm} {q : MIt} {pc : Nat} {ls : Array Slot} {rest : List Value}
theorem snd_chk (hx : p.tables.exec = Jvm.exec) (hb : c.code = q.bytes) (hml : c.maxLocals = ls.size) (hown : s.vm.findClass q.own = some m.cls) (hSx : Sx G s) (hS : va_S (Aq G) s.heap H locs) (hR1 : 16 ≤ R.frames) (hR2 : 256 ≤ R.locals) (hr8 : (rest.map fun v => v.category).sum ≤ 8) (hc : cells ≤ R.cells) (hs : slots ≤ R.slots) {ix w : Nat} {i n : Int32} (h0 : ¬ i < 0) (h1 : i < n) (hB : IR[w]? = some (q.own, ix, 6)) (hd : decode q.bytes pc = .ok (.invokestatic ix, 3))
    (kk : W p l e R s m args below meth c H locs cells slots Q (F0 m (pc + 3) ls rest)) : W p l e R s m args below meth c H locs cells slots Q (F0 m pc ls (.int n :: .int i :: rest)) := by
  refine run_same (r := none) (va_runS (As := [.int i, .int n]) (rest := rest) (n := 2) (Ts := []) (index := ix) ⟨hx, hb, hml, hown, fun _ h => nomatch h⟩ (c_chk l G i n h0 h1) ⟨⟨rfl, rfl, by show 2 + 1 ≤ _; omega, by show 8 + (2 + 11) + 64 ≤ _; omega, ?_, List.mem_singleton.mpr rfl, hSx.1.use cI_code rfl _, hSx.1.use cI_ini rfl _, ⟨by decide, by decide⟩, ?_, hSx.1.use (IR_in _ (List.mem_of_getElem? hB)) rfl args⟩, hSx.1.use cI_st rfl _⟩ ⟨fun a U g mk hp => ⟨hp.1, Sx.go (s := U) (State.WarmedH.refl U) (Nat.le_refl _) (fun _ _ _ => rfl) hp.2⟩, fun U hU hW => ⟨rfl, Sx.go hW (by rw [hU]; exact hS.1) (fun a h1 h2 => by rw [hU]; exact hS.2.1 a h1 h2) hSx⟩⟩ rfl rfl rfl rfl (by show 2 * 0 + _ ≤ 8; omega) hd ⟨hc, hs⟩) kk
  · intro w hw a' U hW
    rw [List.mem_singleton.mp hw]
    exact (hSx.1.warm hW).use cI_code rfl a'
  · intro sig hs
    have : parseMethodDescriptor yK.desc = some sig := hs
    have h2 : (parseMethodDescriptor yK.desc).map (fun d => d.parameters.length) = some 2 := by decide +kernel
    rw [this] at h2
    exact (Option.some.inj h2).symm
end SNDI2
