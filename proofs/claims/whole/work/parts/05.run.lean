-- ===== methods: blocks of rows by their first pc (and where the block goes on), the types of their answers, their handlers, their locals =====
abbrev Pg : Type := (Nat → Nat → List Rw × Nat) × (Nat → Option FieldType) × (Nat → String → Option (Nat × Nat)) × (Nat → Nat)
def bindE (e : Ef) (kS : Lc → List Value → Mm → Option Rs) (kJ : Nat → Lc → List Value → Mm → Option Rs) (kC : Nat → List Value → Mm → Option Rs) (hd : String → Option (Nat × Nat)) : Option Rs := match e with
  | .inl r => r
  | .inr (.inl (L, st, h)) => kS L st h
  | .inr (.inr (.inl (pc, L, st, h))) => kJ pc L st h
  | .inr (.inr (.inr (y, as, L, st, h))) => (match kC y as h with
    | some (.inl (some v), h') => kS L (v :: st) h'
    | some (.inl none, h') => kS L st h'
    | some (.inr E, h') => (match hd E with
      | some (pc, n) => kJ pc (catL L n) [] h'
      | none => some (.inr E, h'))
    | none => none)
theorem bindE_mono {e : Ef} {kS kS' : Lc → List Value → Mm → Option Rs} {kJ kJ' : Nat → Lc → List Value → Mm → Option Rs} {kC kC' : Nat → List Value → Mm → Option Rs} {hd : String → Option (Nat × Nat)} {r : Rs}
    (hS : ∀ L st h r, kS L st h = some r → kS' L st h = some r) (hJ : ∀ pc L st h r, kJ pc L st h = some r → kJ' pc L st h = some r) (hC : ∀ y as h r, kC y as h = some r → kC' y as h = some r) (he : bindE e kS kJ kC hd = some r) : bindE e kS' kJ' kC' hd = some r := by
  rcases e with r0 | ⟨L, st, h⟩ | ⟨pc, L, st, h⟩ | ⟨y, as, L, st, h⟩
  · exact he
  · exact hS _ _ _ _ he
  · exact hJ _ _ _ _ _ he
  · simp only [bindE] at he ⊢
    cases hc : kC y as h with
    | none => rw [hc] at he; cases he
    | some q =>
      rw [hc] at he
      rw [hC _ _ _ _ hc]
      obtain ⟨o, h'⟩ := q
      rcases o with (_ | v) | E
      · exact hS _ _ _ _ he
      · exact hS _ _ _ _ he
      · cases hh : hd E with
        | none => simp only [hh] at he ⊢; exact he
        | some q2 => simp only [hh] at he ⊢; exact hJ _ _ _ _ _ he
def run (P : Pg) : Nat → Nat → List Rw → Nat → Lc → List Value → Mm → Option Rs
  | 0, _, _, _, _, _, _ => none
  | n + 1, y, [], fin, L, st, h => run P n y (P.1 y fin).1 (P.1 y fin).2 L st h
  | n + 1, y, r :: rs, fin, L, st, h => bindE (eff (P.2.1 y) r L st h) (fun L st h => run P n y rs fin L st h) (fun pc L st h => run P n y (P.1 y pc).1 (P.1 y pc).2 L st h) (fun z as h => if catS as ≤ P.2.2.2 z then run P n z (P.1 z 0).1 (P.1 z 0).2 (entL as) [] h else none) (P.2.2.1 y)
theorem run_succ {P : Pg} : ∀ {n y : Nat} {rs : List Rw} {fin : Nat} {L : Lc} {st : List Value} {h : Mm} {r : Rs}, run P n y rs fin L st h = some r → run P (n + 1) y rs fin L st h = some r := by
  intro n
  induction n with
  | zero => intro y rs fin L st h r he; cases he
  | succ n ih =>
    intro y rs fin L st h r he
    cases rs with
    | nil => exact ih he
    | cons r0 rs =>
      refine bindE_mono (fun _ _ _ _ q => ih q) (fun _ _ _ _ _ q => ih q) (fun z as h r q => ?_) he
      split at q
      · rename_i hm; rw [if_pos hm]; exact ih q
      · cases q
theorem run_le {P : Pg} {n m y : Nat} {rs : List Rw} {fin : Nat} {L : Lc} {st : List Value} {h : Mm} {r : Rs} (hnm : n ≤ m) (he : run P n y rs fin L st h = some r) : run P m y rs fin L st h = some r := by
  induction hnm with
  | refl => exact he
  | step _ ih => exact run_succ ih
-- ===== the limit: what a method answers, without a count =====

noncomputable def dn (P : Pg) (y : Nat) (rs : List Rw) (fin : Nat) (L : Lc) (st : List Value) (h : Mm) : Option Rs := @dite _ (∃ r n, run P n y rs fin L st h = some r) (Classical.propDecidable _) (fun hx => some hx.choose) (fun _ => none)
theorem dn_iff {P : Pg} {y : Nat} {rs : List Rw} {fin : Nat} {L : Lc} {st : List Value} {h : Mm} {r : Rs} : dn P y rs fin L st h = some r ↔ ∃ n, run P n y rs fin L st h = some r := by
  unfold dn
  constructor
  · intro he
    split at he
    · rename_i hx
      obtain ⟨n, hn⟩ := hx.choose_spec
      rw [Option.some.inj he] at hn
      exact ⟨n, hn⟩
    · cases he
  · intro ⟨n, hn⟩
    have hx : ∃ r n, run P n y rs fin L st h = some r := ⟨r, n, hn⟩
    rw [dif_pos hx]
    obtain ⟨m, hm⟩ := hx.choose_spec
    have h1 := run_le (Nat.le_max_left n m) hn
    have h2 := run_le (Nat.le_max_right n m) hm
    rw [h1] at h2
    exact congrArg some (Option.some.inj h2).symm
/-- a block, a method -/
noncomputable def dB (P : Pg) (y pc : Nat) (L : Lc) (st : List Value) (h : Mm) : Option Rs := dn P y (P.1 y pc).1 (P.1 y pc).2 L st h
noncomputable def dM (P : Pg) (y : Nat) (as : List Value) (h : Mm) : Option Rs := if catS as ≤ P.2.2.2 y then dB P y 0 (entL as) [] h else none
theorem dM_of {P : Pg} {y : Nat} {as : List Value} {h : Mm} (hm : catS as ≤ P.2.2.2 y) : dM P y as h = dB P y 0 (entL as) [] h := if_pos hm
theorem dM_iff {P : Pg} {y : Nat} {as : List Value} {h : Mm} {r : Rs} (hd : dM P y as h = some r) : catS as ≤ P.2.2.2 y ∧ dB P y 0 (entL as) [] h = some r := by
  unfold dM at hd
  split at hd
  · rename_i hm; exact ⟨hm, hd⟩
  · cases hd
theorem opt_ext {α : Type} {a b : Option α} (h : ∀ r, a = some r ↔ b = some r) : a = b := by
  cases a with
  | none => cases b with
    | none => rfl
    | some y => exact ((h y).mpr rfl)
  | some x => exact ((h x).mp rfl).symm
theorem dn_nil {P : Pg} {y fin : Nat} {L : Lc} {st : List Value} {h : Mm} : dn P y [] fin L st h = dB P y fin L st h := by
  refine opt_ext fun r => ?_
  unfold dB
  rw [dn_iff, dn_iff]
  constructor
  · rintro ⟨n, hn⟩
    cases n with
    | zero => cases hn
    | succ n => exact ⟨n, hn⟩
  · rintro ⟨n, hn⟩
    exact ⟨n + 1, hn⟩
theorem dn_cons {P : Pg} {y fin : Nat} {r0 : Rw} {rs : List Rw} {L : Lc} {st : List Value} {h : Mm} : dn P y (r0 :: rs) fin L st h = bindE (eff (P.2.1 y) r0 L st h) (dn P y rs fin) (dB P y) (dM P) (P.2.2.1 y) := by
  refine opt_ext fun r => ?_
  rw [dn_iff]
  constructor
  · rintro ⟨n, hn⟩
    cases n with
    | zero => cases hn
    | succ n =>
      refine bindE_mono (fun _ _ _ _ q => dn_iff.mpr ⟨n, q⟩) (fun _ _ _ _ _ q => dn_iff.mpr ⟨n, q⟩) (fun z as h r q => ?_) hn
      split at q
      · rename_i hm; rw [dM_of hm]; exact dn_iff.mpr ⟨n, q⟩
      · cases q
  · intro he
    show ∃ n, run P n y (r0 :: rs) fin L st h = some r
    suffices hs : ∃ n, run P (n + 1) y (r0 :: rs) fin L st h = some r from hs.elim fun n hn => ⟨n + 1, hn⟩
    show ∃ n, bindE (eff (P.2.1 y) r0 L st h) (fun L st h => run P n y rs fin L st h) (fun pc L st h => run P n y (P.1 y pc).1 (P.1 y pc).2 L st h) (fun z as h => if catS as ≤ P.2.2.2 z then run P n z (P.1 z 0).1 (P.1 z 0).2 (entL as) [] h else none) (P.2.2.1 y) = some r
    generalize eff (P.2.1 y) r0 L st h = e at he ⊢
    rcases e with r1 | ⟨L1, st1, h1⟩ | ⟨pc, L1, st1, h1⟩ | ⟨z, as, L1, st1, h1⟩
    · exact ⟨0, he⟩
    · exact dn_iff.mp he
    · exact dn_iff.mp he
    · simp only [bindE] at he ⊢
      cases hc : dM P z as h1 with
      | none => rw [hc] at he; cases he
      | some q =>
        rw [hc] at he
        obtain ⟨hcm, hc⟩ := dM_iff hc
        obtain ⟨n1, hn1⟩ := dn_iff.mp hc
        simp only [if_pos hcm]
        obtain ⟨o, h'⟩ := q
        rcases o with (_ | v) | E
        · obtain ⟨n2, hn2⟩ := dn_iff.mp he
          refine ⟨max n1 n2, ?_⟩
          rw [run_le (Nat.le_max_left n1 n2) hn1]
          exact run_le (Nat.le_max_right n1 n2) hn2
        · obtain ⟨n2, hn2⟩ := dn_iff.mp he
          refine ⟨max n1 n2, ?_⟩
          rw [run_le (Nat.le_max_left n1 n2) hn1]
          exact run_le (Nat.le_max_right n1 n2) hn2
        · cases hh : P.2.2.1 y E with
          | none =>
            simp only [hh] at he
            refine ⟨n1, ?_⟩
            rw [hn1]
            simp only [hh]
            exact he
          | some q2 =>
            simp only [hh] at he
            obtain ⟨n2, hn2⟩ := dn_iff.mp he
            refine ⟨max n1 n2, ?_⟩
            rw [run_le (Nat.le_max_left n1 n2) hn1]
            simp only [hh]
            exact run_le (Nat.le_max_right n1 n2) hn2
