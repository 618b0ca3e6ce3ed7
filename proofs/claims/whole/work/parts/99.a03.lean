-- ===== the class while it parses: tokens tk, parser pr, setup d, state c =====
def Mm.cp (h : Mm) (tk pr d c : Nat) (F P : Nat → Int32) (D R : Nat → Nat → Int32) : Mm := (h.1, h.2.1, (fun a => if a = tk then F else if a = pr then P else if d ≤ a ∧ a < d + 7 then D (a - d) else if c ≤ a ∧ a < c + 19 then R (a - c) else h.mi a), h.ml, h.mr)
def DJ (tk pr d c : Nat) : Prop := tk ≠ pr ∧ (tk < d ∨ d + 7 ≤ tk) ∧ (pr < d ∨ d + 7 ≤ pr) ∧ (tk < c ∨ c + 19 ≤ tk) ∧ (pr < c ∨ c + 19 ≤ pr) ∧ d + 7 ≤ c
section CP
variable {h : Mm} {tk pr d c : Nat} {F P : Nat → Int32} {D R : Nat → Nat → Int32}
theorem cp_k : (h.cp tk pr d c F P D R).kd = h.kd := rfl
theorem cp_r : (h.cp tk pr d c F P D R).mr = h.mr := rfl
theorem cp_l : (h.cp tk pr d c F P D R).ml = h.ml := rfl
theorem cp_z : (h.cp tk pr d c F P D R).sz = h.sz := rfl
theorem cp_t : (h.cp tk pr d c F P D R).mi tk = F := if_pos rfl
theorem cp_p (J : DJ tk pr d c) : (h.cp tk pr d c F P D R).mi pr = P := by
  show (if pr = tk then F else if pr = pr then P else _) = P
  rw [if_neg (Ne.symm J.1), if_pos rfl]
theorem cp_d (J : DJ tk pr d c) {o : Nat} (ho : o < 7) : (h.cp tk pr d c F P D R).mi (d + o) = D o := by
  obtain ⟨j1, j2, j3, j4, j5, j6⟩ := J
  show (if d + o = tk then F else if d + o = pr then P else if d ≤ d + o ∧ d + o < d + 7 then D (d + o - d) else _) = D o
  rw [if_neg (by omega), if_neg (by omega), if_pos (by omega), Nat.add_sub_cancel_left]
theorem cp_c (J : DJ tk pr d c) {o : Nat} (ho : o < 19) : (h.cp tk pr d c F P D R).mi (c + o) = R o := by
  obtain ⟨j1, j2, j3, j4, j5, j6⟩ := J
  show (if c + o = tk then F else if c + o = pr then P else if d ≤ c + o ∧ c + o < d + 7 then D (c + o - d) else if c ≤ c + o ∧ c + o < c + 19 then R (c + o - c) else _) = R o
  rw [if_neg (by omega), if_neg (by omega), if_neg (by omega), if_pos (by omega), Nat.add_sub_cancel_left]
theorem cp_o {a : Nat} (h1 : a ≠ tk) (h2 : a ≠ pr) (h3 : a < d ∨ d + 7 ≤ a) (h4 : a < c ∨ c + 19 ≤ a) : (h.cp tk pr d c F P D R).mi a = h.mi a := by
  show (if a = tk then F else if a = pr then P else if d ≤ a ∧ a < d + 7 then D (a - d) else if c ≤ a ∧ a < c + 19 then R (a - c) else h.mi a) = h.mi a
  rw [if_neg h1, if_neg h2, if_neg (by omega), if_neg (by omega)]
theorem mm_ext {h h' : Mm} (e1 : h.1 = h'.1) (e2 : h.kd = h'.kd) (e3 : h.mi = h'.mi) (e4 : h.ml = h'.ml) (e5 : h.mr = h'.mr) : h = h' := by
  obtain ⟨a, b, c, d, e⟩ := h
  obtain ⟨a', b', c', d', e'⟩ := h'
  have e1 : a = a' := e1
  have e2 : b = b' := e2
  have e3 : c = c' := e3
  have e4 : d = d' := e4
  have e5 : e = e' := e5
  rw [e1, e2, e3, e4, e5]
theorem cw_t {F' : Nat → Int32} : (h.cp tk pr d c F P D R).sw tk F' = h.cp tk pr d c F' P D R := by
  refine mm_ext rfl rfl ?_ rfl rfl
  funext a
  show (if a = tk then F' else if a = tk then F else if a = pr then P else if d ≤ a ∧ a < d + 7 then D (a - d) else if c ≤ a ∧ a < c + 19 then R (a - c) else h.mi a) = (if a = tk then F' else if a = pr then P else if d ≤ a ∧ a < d + 7 then D (a - d) else if c ≤ a ∧ a < c + 19 then R (a - c) else h.mi a)
  by_cases e : a = tk
  · rw [if_pos e, if_pos e]
  · rw [if_neg e, if_neg e, if_neg e]
theorem cw_p (J : DJ tk pr d c) {P' : Nat → Int32} : (h.cp tk pr d c F P D R).sw pr P' = h.cp tk pr d c F P' D R := by
  refine mm_ext rfl rfl ?_ rfl rfl
  funext a
  show (if a = pr then P' else if a = tk then F else if a = pr then P else if d ≤ a ∧ a < d + 7 then D (a - d) else if c ≤ a ∧ a < c + 19 then R (a - c) else h.mi a) = (if a = tk then F else if a = pr then P' else if d ≤ a ∧ a < d + 7 then D (a - d) else if c ≤ a ∧ a < c + 19 then R (a - c) else h.mi a)
  have j1 := J.1
  by_cases e : a = pr
  · rw [if_pos e, if_neg (by omega), if_pos e]
  · rw [if_neg e, if_neg e, if_neg e]
theorem cs_p (J : DJ tk pr d c) {k : Nat} {v : Int32} : (h.cp tk pr d c F P D R).si pr k v = h.cp tk pr d c F (zu P k v) D R := by
  rw [si_sw (a := pr), cp_p J, cw_p J]
theorem cw_d (J : DJ tk pr d c) {o : Nat} (ho : o < 7) {f : Nat → Int32} : (h.cp tk pr d c F P D R).sw (d + o) f = h.cp tk pr d c F P (zu D o f) R := by
  obtain ⟨j1, j2, j3, j4, j5, j6⟩ := J
  refine mm_ext rfl rfl ?_ rfl rfl
  funext a
  show (if a = d + o then f else if a = tk then F else if a = pr then P else if d ≤ a ∧ a < d + 7 then D (a - d) else if c ≤ a ∧ a < c + 19 then R (a - c) else h.mi a) = (if a = tk then F else if a = pr then P else if d ≤ a ∧ a < d + 7 then zu D o f (a - d) else if c ≤ a ∧ a < c + 19 then R (a - c) else h.mi a)
  by_cases e : a = d + o
  · rw [if_pos e, if_neg (by omega), if_neg (by omega), if_pos (by omega), show a - d = o by omega, zu_same]
  · rw [if_neg e]
    by_cases e2 : d ≤ a ∧ a < d + 7
    · rw [if_pos e2, if_pos e2, zu_o (by omega)]
    · rw [if_neg e2, if_neg e2]
theorem cs_d (J : DJ tk pr d c) {o k : Nat} {v : Int32} (ho : o < 7) : (h.cp tk pr d c F P D R).si (d + o) k v = h.cp tk pr d c F P (zu2 D o k v) R := by
  rw [si_sw (a := d + o), cp_d J ho, cw_d J ho]
  congr 1
theorem cb_c (J : DJ tk pr d c) {R' : Nat → Nat → Int32} : (h.cp tk pr d c F P D R).sb c R' = h.cp tk pr d c F P D R' := by
  obtain ⟨j1, j2, j3, j4, j5, j6⟩ := J
  refine mm_ext rfl rfl ?_ rfl rfl
  funext a
  show (if c ≤ a ∧ a < c + 19 then R' (a - c) else if a = tk then F else if a = pr then P else if d ≤ a ∧ a < d + 7 then D (a - d) else if c ≤ a ∧ a < c + 19 then R (a - c) else h.mi a) = (if a = tk then F else if a = pr then P else if d ≤ a ∧ a < d + 7 then D (a - d) else if c ≤ a ∧ a < c + 19 then R' (a - c) else h.mi a)
  by_cases e : c ≤ a ∧ a < c + 19
  · rw [if_pos e, if_neg (by omega), if_neg (by omega), if_neg (by omega), if_pos e]
  · rw [if_neg e, if_neg e, if_neg e]
theorem cs_c (J : DJ tk pr d c) {o k : Nat} {v : Int32} (ho : o < 19) : (h.cp tk pr d c F P D R).si (c + o) k v = h.cp tk pr d c F P D (zu2 R o k v) := by
  have e := si_sb (h := h.cp tk pr d c F P D R) (b := c) (o := o) (k := k) (v := v) (R := R) ho
  rw [cb_c J, cb_c J] at e
  exact e
theorem cp_0 (J : DJ tk pr d c) : (h.cp tk pr d c F P D R).mi d = D 0 := cp_d J (o := 0) (by decide)
theorem cs_0 (J : DJ tk pr d c) {k : Nat} {v : Int32} : (h.cp tk pr d c F P D R).si d k v = h.cp tk pr d c F P (zu2 D 0 k v) R := cs_d J (o := 0) (by decide)
theorem cpc_0 (J : DJ tk pr d c) : (h.cp tk pr d c F P D R).mi c = R 0 := cp_c J (o := 0) (by decide)
theorem csc_0 (J : DJ tk pr d c) {k : Nat} {v : Int32} : (h.cp tk pr d c F P D R).si c k v = h.cp tk pr d c F P D (zu2 R 0 k v) := cs_c J (o := 0) (by decide)
theorem cp_1 (J : DJ tk pr d c) : (h.cp tk pr d c F P D R).mi (d + 1) = D 1 := cp_d J (by decide)
theorem cs_1 (J : DJ tk pr d c) {k : Nat} {v : Int32} : (h.cp tk pr d c F P D R).si (d + 1) k v = h.cp tk pr d c F P (zu2 D 1 k v) R := cs_d J (by decide)
theorem cp_2 (J : DJ tk pr d c) : (h.cp tk pr d c F P D R).mi (d + 2) = D 2 := cp_d J (by decide)
theorem cs_2 (J : DJ tk pr d c) {k : Nat} {v : Int32} : (h.cp tk pr d c F P D R).si (d + 2) k v = h.cp tk pr d c F P (zu2 D 2 k v) R := cs_d J (by decide)
theorem cp_3 (J : DJ tk pr d c) : (h.cp tk pr d c F P D R).mi (d + 3) = D 3 := cp_d J (by decide)
theorem cs_3 (J : DJ tk pr d c) {k : Nat} {v : Int32} : (h.cp tk pr d c F P D R).si (d + 3) k v = h.cp tk pr d c F P (zu2 D 3 k v) R := cs_d J (by decide)
theorem cp_4 (J : DJ tk pr d c) : (h.cp tk pr d c F P D R).mi (d + 4) = D 4 := cp_d J (by decide)
theorem cs_4 (J : DJ tk pr d c) {k : Nat} {v : Int32} : (h.cp tk pr d c F P D R).si (d + 4) k v = h.cp tk pr d c F P (zu2 D 4 k v) R := cs_d J (by decide)
theorem cp_5 (J : DJ tk pr d c) : (h.cp tk pr d c F P D R).mi (d + 5) = D 5 := cp_d J (by decide)
theorem cs_5 (J : DJ tk pr d c) {k : Nat} {v : Int32} : (h.cp tk pr d c F P D R).si (d + 5) k v = h.cp tk pr d c F P (zu2 D 5 k v) R := cs_d J (by decide)
theorem cp_6 (J : DJ tk pr d c) : (h.cp tk pr d c F P D R).mi (d + 6) = D 6 := cp_d J (by decide)
theorem cs_6 (J : DJ tk pr d c) {k : Nat} {v : Int32} : (h.cp tk pr d c F P D R).si (d + 6) k v = h.cp tk pr d c F P (zu2 D 6 k v) R := cs_d J (by decide)
theorem cpc_1 (J : DJ tk pr d c) : (h.cp tk pr d c F P D R).mi (c + 1) = R 1 := cp_c J (by decide)
theorem csc_1 (J : DJ tk pr d c) {k : Nat} {v : Int32} : (h.cp tk pr d c F P D R).si (c + 1) k v = h.cp tk pr d c F P D (zu2 R 1 k v) := cs_c J (by decide)
theorem cpc_2 (J : DJ tk pr d c) : (h.cp tk pr d c F P D R).mi (c + 2) = R 2 := cp_c J (by decide)
theorem csc_2 (J : DJ tk pr d c) {k : Nat} {v : Int32} : (h.cp tk pr d c F P D R).si (c + 2) k v = h.cp tk pr d c F P D (zu2 R 2 k v) := cs_c J (by decide)
theorem cpc_3 (J : DJ tk pr d c) : (h.cp tk pr d c F P D R).mi (c + 3) = R 3 := cp_c J (by decide)
theorem csc_3 (J : DJ tk pr d c) {k : Nat} {v : Int32} : (h.cp tk pr d c F P D R).si (c + 3) k v = h.cp tk pr d c F P D (zu2 R 3 k v) := cs_c J (by decide)
theorem cpc_4 (J : DJ tk pr d c) : (h.cp tk pr d c F P D R).mi (c + 4) = R 4 := cp_c J (by decide)
theorem csc_4 (J : DJ tk pr d c) {k : Nat} {v : Int32} : (h.cp tk pr d c F P D R).si (c + 4) k v = h.cp tk pr d c F P D (zu2 R 4 k v) := cs_c J (by decide)
theorem cpc_5 (J : DJ tk pr d c) : (h.cp tk pr d c F P D R).mi (c + 5) = R 5 := cp_c J (by decide)
theorem csc_5 (J : DJ tk pr d c) {k : Nat} {v : Int32} : (h.cp tk pr d c F P D R).si (c + 5) k v = h.cp tk pr d c F P D (zu2 R 5 k v) := cs_c J (by decide)
theorem cpc_6 (J : DJ tk pr d c) : (h.cp tk pr d c F P D R).mi (c + 6) = R 6 := cp_c J (by decide)
theorem csc_6 (J : DJ tk pr d c) {k : Nat} {v : Int32} : (h.cp tk pr d c F P D R).si (c + 6) k v = h.cp tk pr d c F P D (zu2 R 6 k v) := cs_c J (by decide)
theorem cpc_7 (J : DJ tk pr d c) : (h.cp tk pr d c F P D R).mi (c + 7) = R 7 := cp_c J (by decide)
theorem csc_7 (J : DJ tk pr d c) {k : Nat} {v : Int32} : (h.cp tk pr d c F P D R).si (c + 7) k v = h.cp tk pr d c F P D (zu2 R 7 k v) := cs_c J (by decide)
theorem cpc_8 (J : DJ tk pr d c) : (h.cp tk pr d c F P D R).mi (c + 8) = R 8 := cp_c J (by decide)
theorem csc_8 (J : DJ tk pr d c) {k : Nat} {v : Int32} : (h.cp tk pr d c F P D R).si (c + 8) k v = h.cp tk pr d c F P D (zu2 R 8 k v) := cs_c J (by decide)
theorem cpc_9 (J : DJ tk pr d c) : (h.cp tk pr d c F P D R).mi (c + 9) = R 9 := cp_c J (by decide)
theorem csc_9 (J : DJ tk pr d c) {k : Nat} {v : Int32} : (h.cp tk pr d c F P D R).si (c + 9) k v = h.cp tk pr d c F P D (zu2 R 9 k v) := cs_c J (by decide)
theorem cpc_10 (J : DJ tk pr d c) : (h.cp tk pr d c F P D R).mi (c + 10) = R 10 := cp_c J (by decide)
theorem csc_10 (J : DJ tk pr d c) {k : Nat} {v : Int32} : (h.cp tk pr d c F P D R).si (c + 10) k v = h.cp tk pr d c F P D (zu2 R 10 k v) := cs_c J (by decide)
theorem cpc_11 (J : DJ tk pr d c) : (h.cp tk pr d c F P D R).mi (c + 11) = R 11 := cp_c J (by decide)
theorem csc_11 (J : DJ tk pr d c) {k : Nat} {v : Int32} : (h.cp tk pr d c F P D R).si (c + 11) k v = h.cp tk pr d c F P D (zu2 R 11 k v) := cs_c J (by decide)
theorem cpc_12 (J : DJ tk pr d c) : (h.cp tk pr d c F P D R).mi (c + 12) = R 12 := cp_c J (by decide)
theorem csc_12 (J : DJ tk pr d c) {k : Nat} {v : Int32} : (h.cp tk pr d c F P D R).si (c + 12) k v = h.cp tk pr d c F P D (zu2 R 12 k v) := cs_c J (by decide)
theorem cpc_13 (J : DJ tk pr d c) : (h.cp tk pr d c F P D R).mi (c + 13) = R 13 := cp_c J (by decide)
theorem csc_13 (J : DJ tk pr d c) {k : Nat} {v : Int32} : (h.cp tk pr d c F P D R).si (c + 13) k v = h.cp tk pr d c F P D (zu2 R 13 k v) := cs_c J (by decide)
theorem cpc_14 (J : DJ tk pr d c) : (h.cp tk pr d c F P D R).mi (c + 14) = R 14 := cp_c J (by decide)
theorem csc_14 (J : DJ tk pr d c) {k : Nat} {v : Int32} : (h.cp tk pr d c F P D R).si (c + 14) k v = h.cp tk pr d c F P D (zu2 R 14 k v) := cs_c J (by decide)
theorem cpc_15 (J : DJ tk pr d c) : (h.cp tk pr d c F P D R).mi (c + 15) = R 15 := cp_c J (by decide)
theorem csc_15 (J : DJ tk pr d c) {k : Nat} {v : Int32} : (h.cp tk pr d c F P D R).si (c + 15) k v = h.cp tk pr d c F P D (zu2 R 15 k v) := cs_c J (by decide)
theorem cpc_16 (J : DJ tk pr d c) : (h.cp tk pr d c F P D R).mi (c + 16) = R 16 := cp_c J (by decide)
theorem csc_16 (J : DJ tk pr d c) {k : Nat} {v : Int32} : (h.cp tk pr d c F P D R).si (c + 16) k v = h.cp tk pr d c F P D (zu2 R 16 k v) := cs_c J (by decide)
theorem cpc_17 (J : DJ tk pr d c) : (h.cp tk pr d c F P D R).mi (c + 17) = R 17 := cp_c J (by decide)
theorem csc_17 (J : DJ tk pr d c) {k : Nat} {v : Int32} : (h.cp tk pr d c F P D R).si (c + 17) k v = h.cp tk pr d c F P D (zu2 R 17 k v) := cs_c J (by decide)
theorem cpc_18 (J : DJ tk pr d c) : (h.cp tk pr d c F P D R).mi (c + 18) = R 18 := cp_c J (by decide)
theorem csc_18 (J : DJ tk pr d c) {k : Nat} {v : Int32} : (h.cp tk pr d c F P D R).si (c + 18) k v = h.cp tk pr d c F P D (zu2 R 18 k v) := cs_c J (by decide)
theorem cp_kk (J : DJ tk pr d c) {k : Nat} (hk : k < 4) : (h.cp tk pr d c F P D R).mi (d + 3 + k) = D (3 + k) := by
  rw [Nat.add_assoc]; exact cp_d J (by omega)
theorem cs_kk (J : DJ tk pr d c) {k j : Nat} {v : Int32} (hk : k < 4) : (h.cp tk pr d c F P D R).si (d + 3 + k) j v = h.cp tk pr d c F P (zu2 D (3 + k) j v) R := by
  rw [Nat.add_assoc]; exact cs_d J (by omega)
end CP
/-- the parser's objects -/
def PO (h : Mm) (tk pr d c : Nat) : Prop := DJ tk pr d c ∧ h.kd tk = some (.inl 6) ∧ h.mr tk 0 = some 201 ∧ h.kd 201 = some (.inr (.byte, 1500)) ∧ h.kd pr = some (.inl 3) ∧ h.mr pr 0 = some tk ∧ h.mr pr 1 = some d ∧ h.mr pr 2 = some c ∧ SU h d ∧ ST h c ∧ 201 < d ∧ 291 ≤ pr ∧ 291 ≤ tk ∧ (c + 19 ≤ 273 ∨ 291 ≤ c)
/-- the text in the class's buffer -/
def TXT (h : Mm) (n : Nat) (T : Nat → Nat) : Prop := n ≤ 1500 ∧ ∀ j, j < n → T j < 256 ∧ h.mi 201 j = sb8 (T j)
theorem po_o {h : Mm} {tk pr d c : Nat} {F P : Nat → Int32} {D R : Nat → Nat → Int32} (O : PO h tk pr d c) : (h.cp tk pr d c F P D R).mi 201 = h.mi 201 := by
  obtain ⟨j, -, -, -, -, -, -, -, -, -, o1, o2, o3, o4⟩ := O
  have j6 := j.2.2.2.2.2
  exact cp_o (by omega) (by omega) (by omega) (by omega)
theorem po_tko {h : Mm} {tk pr d c n : Nat} {T : Nat → Nat} {F P : Nat → Int32} {D R : Nat → Nat → Int32} (O : PO h tk pr d c) (X : TXT h n T) : TKO (h.cp tk pr d c F P D R) tk n T := by
  have e := po_o (F := F) (P := P) (D := D) (R := R) O
  obtain ⟨j, k1, r1, k2, -, -, -, -, -, -, o1, o2, o3, o4⟩ := O
  refine ⟨k1, r1, k2, by omega, X.1, fun i hi => ?_⟩
  rw [e]; exact X.2 i hi
