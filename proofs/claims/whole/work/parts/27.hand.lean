-- ===== handlers =====
def covR (y pc : Nat) (r : Rw) : Bool := match r.1 with
  | .invokevirtual _ => (hhOf y).all (fun z => decide (z.1 ≤ pc) && decide (pc < z.2.1))
  | .invokestatic _ => (hhOf y).all (fun z => decide (z.1 ≤ pc) && decide (pc < z.2.1))
  | .invokespecial _ => (hhOf y).all (fun z => decide (z.1 ≤ pc) && decide (pc < z.2.1))
  | _ => true
def rowsC (y : Nat) : Nat → List Rw → Bool
  | _, [] => true
  | pc, r :: rs => covR y pc r && rowsC y r.2.1 rs
def hhE (e : MIt) (z : HHe) : Bool := decide (z.1.2.2.2 ≠ 0) && decide (z.2.2.2 < e.maxL) && (match decode e.bytes z.1.2.2.1 with
    | .ok (.astore_n k, 1) => decide ((k : Nat) = z.2.2.2) && decide (z.2.2.1 = z.1.2.2.1 + 1)
    | .ok (.astore k, 2) => decide (k = z.2.2.2) && decide (z.2.2.1 = z.1.2.2.1 + 2)
    | _ => false) && ([(13, 1), (15, 2), (20, 0), (135, 3)] : List (Nat × Nat)).any (fun t => decide (z.1.2.2.2 = t.1) && decide (z.2.1 = exN t.2))
def hhT (t : HHt) : Bool := match MI[t.1]? with
  | some q => t.2.all (hhE q) && decide (q.own = "FishGraderLaw") && decide (q.kind = 3)
  | none => false
set_option maxRecDepth 1000000 in
theorem HH_all : HH.all hhT = true := by decide +kernel
theorem HH_ok {y : Nat} {q : MIt} (hq : MI[y]? = some q) : ∀ z ∈ hhL y, hhE q z = true ∧ q.own = "FishGraderLaw" := by
  intro z hz
  unfold hhL at hz
  split at hz
  · rename_i t ht
    have h1 := List.find?_some ht
    have hy : t.1 = y := by simpa using h1
    have h2 := List.all_eq_true.mp HH_all t (List.mem_of_find?_eq_some ht)
    unfold hhT at h2
    rw [hy, hq] at h2
    simp only [Bool.and_eq_true, decide_eq_true_eq] at h2
    exact ⟨List.all_eq_true.mp h2.1.1 z hz, h2.1.2⟩
  · cases hz
theorem hh_kind {y : Nat} {q : MIt} (hq : MI[y]? = some q) (hk : q.kind ≠ 3) : hhL y = [] := by
  unfold hhL
  split
  · rename_i t ht
    have h1 := List.find?_some ht
    have hy : t.1 = y := by simpa using h1
    have h2 := List.all_eq_true.mp HH_all t (List.mem_of_find?_eq_some ht)
    unfold hhT at h2
    rw [hy, hq] at h2
    simp only [Bool.and_eq_true, decide_eq_true_eq] at h2
    exact absurd h2.2 hk
  · rfl
theorem hhE_link {q : MIt} {z : HHe} (h : hhE q z = true) : z.1.2.2.2 ≠ 0 ∧ z.2.2.2 < q.maxL ∧ (∃ a, a < 4 ∧ z.2.1 = exN a) ∧ Cond.classLink "FishGraderLaw" z.1.2.2.2 z.2.1 ∈ lw_tbl ∧ ((∃ k : Fin 4, decode q.bytes z.1.2.2.1 = .ok (.astore_n k, 1) ∧ (k : Nat) = z.2.2.2 ∧ z.2.2.1 = z.1.2.2.1 + 1) ∨ (decode q.bytes z.1.2.2.1 = .ok (.astore z.2.2.2, 2) ∧ z.2.2.1 = z.1.2.2.1 + 2)) := by
  unfold hhE at h
  simp only [Bool.and_eq_true, decide_eq_true_eq] at h
  obtain ⟨⟨⟨h1, h2⟩, h3⟩, h4⟩ := h
  refine ⟨h1, h2, ?_, ?_, ?_⟩
  · simp only [List.any_cons, List.any_nil, Bool.or_false, Bool.or_eq_true, Bool.and_eq_true, decide_eq_true_eq] at h4
    rcases h4 with ⟨-, e⟩ | ⟨-, e⟩ | ⟨-, e⟩ | ⟨-, e⟩
    · exact ⟨1, by decide, e⟩
    · exact ⟨2, by decide, e⟩
    · exact ⟨0, by decide, e⟩
    · exact ⟨3, by decide, e⟩
  · simp only [List.any_cons, List.any_nil, Bool.or_false, Bool.or_eq_true, Bool.and_eq_true, decide_eq_true_eq] at h4
    rcases h4 with ⟨e1, e⟩ | ⟨e1, e⟩ | ⟨e1, e⟩ | ⟨e1, e⟩
    · rw [e1, e]; exact hL_13
    · rw [e1, e]; exact hL_15
    · rw [e1, e]; exact hL_20
    · rw [e1, e]; exact hL_135
  · split at h3
    · rename_i k hd
      simp only [Bool.and_eq_true, decide_eq_true_eq] at h3
      exact Or.inl ⟨k, hd, h3.1, h3.2⟩
    · rename_i k hd
      simp only [Bool.and_eq_true, decide_eq_true_eq] at h3
      exact Or.inr ⟨by rw [hd, h3.1], h3.2⟩
    · cases h3
theorem hC_at : ∀ a, a < 4 → Cond.castable (exN a) (exN a) ∈ lw_tbl := by
  intro a ha
  rcases (show a = 0 ∨ a = 1 ∨ a = 2 ∨ a = 3 by omega) with rfl | rfl | rfl | rfl
  · exact hC_0
  · exact hC_1
  · exact hC_2
  · exact hC_3
theorem exN_inj {a b : Nat} (ha : a < 4) (hb : b < 4) (h : exN a = exN b) : a = b := by
  rcases (show a = 0 ∨ a = 1 ∨ a = 2 ∨ a = 3 by omega) with rfl | rfl | rfl | rfl <;> rcases (show b = 0 ∨ b = 1 ∨ b = 2 ∨ b = 3 by omega) with rfl | rfl | rfl | rfl <;> first | rfl | (revert h; decide)
section SNDX
variable {p : Program} {l : Launch} {e : Env} {R : Room} {s : State} {m : MethodId} {args : Array Value} {below : List Frame} {meth : Method} {c : Code} {H : Heap} {locs : List Loc} {cells slots : Nat} {Q : State → Prop} {G : Gx} {φ : Nat → Nat} {h : Mm} {q : MIt} {y pc : Nat} {ls : Array Slot} {rest : List Value}
/-- an entry of the table that another exception passes -/
theorem hpass_at (hSx : Sx G s) {z : HHe} (hz : hhE q z = true) (ho : q.own = "FishGraderLaw") {a : Nat} (ha : a < 4) (hne : z.2.1 ≠ exN a) : z.1.2.2.2 ≠ 0 ∧ ∃ nm : String, (Cond.classLink q.own z.1.2.2.2 nm).before args s = true ∧ va_Nc (exN a) nm s := by
  obtain ⟨h1, -, ⟨b, hb, h3⟩, h4, -⟩ := hhE_link hz
  refine ⟨h1, z.2.1, ?_, ?_⟩
  · rw [ho]; exact hSx.1.use h4 rfl args
  · rw [h3]
    exact hSx.2.2.1.2.2.2.2.2.2.2.1 a b ha hb (fun z => hne (by rw [h3, z]))
theorem find_split {α : Type} {f : α → Bool} : ∀ {l : List α} {x : α}, l.find? f = some x → ∃ pre suf, l = pre ++ x :: suf ∧ f x = true ∧ ∀ z ∈ pre, f z = false := by
  intro l
  induction l with
  | nil => intro x h; cases h
  | cons a t ih =>
    intro x h
    rw [List.find?_cons] at h
    split at h
    · cases h
      rename_i hf
      exact ⟨[], t, rfl, hf, fun _ h => nomatch h⟩
    · rename_i hf
      obtain ⟨pre, suf, e1, e2, e3⟩ := ih h
      refine ⟨a :: pre, suf, by rw [e1]; rfl, e2, fun z hz => ?_⟩
      rcases List.mem_cons.mp hz with rfl | hz
      · exact hf
      · exact e3 z hz
theorem snd_catch (hq : MI[y]? = some q) (hx : p.tables.exec = Jvm.exec) (hb : c.code = q.bytes) (hown : s.vm.findClass q.own = some m.cls) (hSx : Sx G s) (htab : c.exceptionTable.toList = tableOf (hhOf y)) (hcov : (hhOf y).all (fun z => decide (z.1 ≤ pc) && decide (pc < z.2.1)) = true) {L : Lc} (hl : lvR φ ls q.maxL L) {a pc' n : Nat} (ha : a < 4) (hd : hdOf y (exN a) = some (pc', n)) {ce : Cell} {z : Addr} (hcell : H[z]? = some ce) (hv : ce.vm = .none) (hcl : s.vm.findClass (exN a) = some ce.cls)
    (kk : ∀ ls' : Array Slot, lvR φ ls' q.maxL (catL L n) → W p l e R s m args below meth c H locs cells slots Q (F0 m pc' ls' [])) : vx_W p l e R s m args below meth c H locs cells slots Q (F0 m pc ls rest) z := by
  unfold hdOf at hd
  obtain ⟨t, ht, hpn⟩ := Option.map_eq_some_iff.mp hd
  obtain ⟨pre, suf, e1, e2, e3⟩ := find_split ht
  have hall := HH_ok hq
  have htm : t ∈ hhL y := by rw [e1]; exact List.mem_append_right _ List.mem_cons_self
  obtain ⟨hte, ho⟩ := hall t htm
  obtain ⟨g1, g2, -, g4, g5⟩ := hhE_link hte
  have hE : t.2.1 = exN a := by simpa using e2
  have hcv : ∀ u ∈ hhL y, covers ⟨u.1.1, u.1.2.1, u.1.2.2.1, u.1.2.2.2⟩ pc = true := by
    intro u hu
    have := List.all_eq_true.mp hcov u.1 (List.mem_map.mpr ⟨u, hu, rfl⟩)
    exact this
  have hsp : c.exceptionTable.toList = (pre.map (fun u => (⟨u.1.1, u.1.2.1, u.1.2.2.1, u.1.2.2.2⟩ : ExceptionTableEntry))) ++ (⟨t.1.1, t.1.2.1, t.1.2.2.1, t.1.2.2.2⟩ : ExceptionTableEntry) :: (suf.map (fun u => (⟨u.1.1, u.1.2.1, u.1.2.2.1, u.1.2.2.2⟩ : ExceptionTableEntry))) := by
    rw [htab]
    unfold tableOf hhOf
    rw [e1, List.map_map, List.map_append, List.map_cons]
    rfl
  rw [hE] at g4
  refine vx_catch hown _ _ _ hsp ?_ (hcv t htm) g1 (by rw [ho]; exact hSx.1.use g4 rfl args) (hSx.1.use (hC_at a ha) rfl args) hcell hv hcl ?_
  · intro u hu
    obtain ⟨u', hu', rfl⟩ := List.mem_map.mp hu
    have hne : u'.2.1 ≠ exN a := by simpa using e3 u' hu'
    obtain ⟨q1, q2⟩ := hpass_at (args := args) hSx (hall u' (by rw [e1]; exact List.mem_append_left _ hu')).1 ho ha hne
    exact Or.inr ⟨q1, q2⟩
  · have hpn1 : t.2.2.1 = pc' := congrArg Prod.fst hpn
    have hpn2 : t.2.2.2 = n := congrArg Prod.snd hpn
    rw [hpn2] at g2 g5
    rw [hpn1] at g5
    rcases g5 with ⟨k, d1, d2, d3⟩ | ⟨d1, d3⟩
    · refine lv_astore_n hx hb d1 d2 hl g2 rfl (fun ls' hl' => ?_)
      rw [← d3]
      exact kk ls' (lvR.cat hl')
    · refine lv_astore hx hb d1 hl g2 rfl (fun ls' hl' => ?_)
      rw [← d3]
      exact kk ls' (lvR.cat hl')
theorem hd_none {a : Nat} (hd : hdOf y (exN a) = none) : ∀ u ∈ hhL y, u.2.1 ≠ exN a := by
  unfold hdOf at hd
  rw [Option.map_eq_none_iff, List.find?_eq_none] at hd
  intro u hu
  simpa using hd u hu
theorem snd_uncaught {Qc : Array Value → State → Outcome → State → Prop} {XC : String → State → State → Prop} {mc ms : Nat} {free : Addr → Prop} (hq : MI[y]? = some q) (hown : s.vm.findClass q.own = some m.cls) (hSx : Sx G s) (hlk : meth.locks = false) (htab : c.exceptionTable.toList = tableOf (hhOf y)) {a : Nat} (ha : a < 4) (hd : hdOf y (exN a) = none) {ce : Cell} {z : Addr} (hcell : H[z]? = some ce) (hv : ce.vm = .none) (hcl : s.vm.findClass (exN a) = some ce.cls)
    (hX : ∀ t : State, t.heap = H → s.vm.Alike t.vm → XC (exN a) s t) (hf : ∀ u ∈ locs, free u.base) (hc : cells ≤ mc) (hs : slots ≤ ms) : vx_W p l e R s m args below meth c H locs cells slots (vx_MQ below Qc XC args s mc ms free) (F0 m pc ls rest) z := by
  refine vx_outP hown hlk ?_ hcell hv hcl hX hf hc hs
  intro u hu
  rw [htab] at hu
  unfold tableOf hhOf at hu
  rw [List.map_map] at hu
  obtain ⟨u', hu', rfl⟩ := List.mem_map.mp hu
  obtain ⟨h1, h2⟩ := HH_ok hq u' hu'
  obtain ⟨q1, q2⟩ := hpass_at (args := args) hSx h1 h2 ha (hd_none hd u' hu')
  exact Or.inr ⟨q1, q2⟩
end SNDX
