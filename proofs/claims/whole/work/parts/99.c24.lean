-- ===== texts: class and model write the same =====
theorem tC_tS {n : Nat} {d : Nat → Nat} {t : Tt} : tC (d n) (tS n d t) = tS (n + 1) d t := by
  unfold tC tS
  show (t.1 + n + 1, zu (apL t.1 n t.2 d) (t.1 + n) (d n)) = (t.1 + (n + 1), apL t.1 (n + 1) t.2 d)
  refine Prod.ext (by show t.1 + n + 1 = t.1 + (n + 1); omega) ?_
  funext j
  show zu (apL t.1 n t.2 d) (t.1 + n) (d n) j = apL t.1 (n + 1) t.2 d j
  by_cases e : j = t.1 + n
  · subst e
    rw [zu_same]
    unfold apL
    rw [if_neg (by omega), if_pos (by omega), show t.1 + n - t.1 = n by omega]
  · rw [zu_o e]
    unfold apL
    by_cases c1 : j < t.1
    · rw [if_pos c1, if_pos c1]
    · rw [if_neg c1, if_neg c1]
      by_cases c2 : j < t.1 + n
      · rw [if_pos c2, if_pos (by omega)]
      · rw [if_neg c2, if_neg (by omega)]
theorem tS_0 {d : Nat → Nat} {t : Tt} : tS 0 d t = t := by
  unfold tS
  refine Prod.ext rfl ?_
  funext j
  show apL t.1 0 t.2 d j = t.2 j
  unfold apL
  by_cases c : j < t.1
  · rw [if_pos c]
  · rw [if_neg c, if_neg (by omega)]
theorem tS_fl {d : Nat → Nat} {t : Tt} : ∀ n, fl (fun j t => tC (d j) t) n 0 t = tS n d t := by
  intro n
  induction n with
  | zero => exact tS_0.symm
  | succ n ih =>
    rw [fl_snoc, ih, Nat.zero_add]
    exact tC_tS
theorem pk_dig {c : Nat → Nat} : ∀ (l e : Nat), (∀ j, j < l → 97 ≤ c j ∧ c j ≤ 122) → pkN (l, c) / 32 ^ e % 32 = if e < l then c (l - 1 - e) - 96 else 0 := by
  intro l
  induction l with
  | zero =>
    intro e _
    rw [if_neg (by omega), show pkN (0, c) = 0 from rfl, Nat.zero_div]
  | succ l ih =>
    intro e hc
    have e1 : pkN (l + 1, c) = 32 * pkN (l, c) + (c (0 + l) - 96) := fl_snoc l 0 0
    rw [Nat.zero_add] at e1
    have h2 := hc l (by omega)
    cases e with
    | zero =>
      rw [if_pos (by omega), Nat.pow_zero, Nat.div_one, e1, show l + 1 - 1 - 0 = l by omega]
      omega
    | succ e =>
      rw [Nat.pow_succ, Nat.mul_comm, ← Nat.div_div_eq_div_mul, show pkN (l + 1, c) / 32 = pkN (l, c) by rw [e1]; omega, ih e (fun j hj => hc j (by omega))]
      by_cases k : e < l
      · rw [if_pos k, if_pos (by omega), show l - 1 - e = l + 1 - 1 - (e + 1) by omega]
      · rw [if_neg k, if_neg (by omega)]
def leN (x : Nat × (Nat → Nat)) (i : Nat) : Nat := pkN x / 32 ^ (8 - i) % 32
theorem and_31 {x : BitVec 64} : (x &&& 31#64).toNat = x.toNat % 32 := by
  rw [BitVec.toNat_and]
  exact Nat.and_two_pow_sub_one_eq_mod x.toNat 5
theorem i64_32 {y : Int64} {t : Nat} (ht : t < 32) (h : y.toBitVec.toNat = t) : y.toInt32 = Int32.ofNat t := by
  apply Int32.toBitVec_inj.mp
  apply BitVec.eq_of_toNat_eq
  show (y.toBitVec.signExtend 32).toNat = (BitVec.ofNat 32 t).toNat
  rw [BitVec.signExtend_eq_setWidth_of_le _ (by decide), BitVec.toNat_setWidth, BitVec.toNat_ofNat, h]
theorem lt5_0 {p : Nat} (hp : p < 32 ^ 9) : lt5 (Int64.ofNat p) 0 = Int32.ofNat (p / 32 ^ 8 % 32) := by
  unfold lt5
  have e : ((kI 0).toInt64 &&& 63) = 40 := by decide +kernel
  rw [e]
  apply i64_32 (Nat.mod_lt _ (by decide))
  show (((BitVec.ofNat 64 p).sshiftRight 40) &&& 31#64).toNat = _
  rw [and_31]
  have h9 : (32 : Nat) ^ 9 = 35184372088832 := by decide
  have tn : (BitVec.ofNat 64 p).toNat = p := by
    rw [BitVec.toNat_ofNat]
    exact Nat.mod_eq_of_lt (by omega)
  have m : (BitVec.ofNat 64 p).msb = false := by
    rw [BitVec.msb_eq_false_iff_two_mul_lt, tn]
    omega
  rw [BitVec.sshiftRight_eq_of_msb_false m, BitVec.toNat_ushiftRight, Nat.shiftRight_eq_div_pow, tn]
theorem lt5_1 {p : Nat} (hp : p < 32 ^ 9) : lt5 (Int64.ofNat p) 1 = Int32.ofNat (p / 32 ^ 7 % 32) := by
  unfold lt5
  have e : ((kI 1).toInt64 &&& 63) = 35 := by decide +kernel
  rw [e]
  apply i64_32 (Nat.mod_lt _ (by decide))
  show (((BitVec.ofNat 64 p).sshiftRight 35) &&& 31#64).toNat = _
  rw [and_31]
  have h9 : (32 : Nat) ^ 9 = 35184372088832 := by decide
  have tn : (BitVec.ofNat 64 p).toNat = p := by
    rw [BitVec.toNat_ofNat]
    exact Nat.mod_eq_of_lt (by omega)
  have m : (BitVec.ofNat 64 p).msb = false := by
    rw [BitVec.msb_eq_false_iff_two_mul_lt, tn]
    omega
  rw [BitVec.sshiftRight_eq_of_msb_false m, BitVec.toNat_ushiftRight, Nat.shiftRight_eq_div_pow, tn]
theorem lt5_2 {p : Nat} (hp : p < 32 ^ 9) : lt5 (Int64.ofNat p) 2 = Int32.ofNat (p / 32 ^ 6 % 32) := by
  unfold lt5
  have e : ((kI 2).toInt64 &&& 63) = 30 := by decide +kernel
  rw [e]
  apply i64_32 (Nat.mod_lt _ (by decide))
  show (((BitVec.ofNat 64 p).sshiftRight 30) &&& 31#64).toNat = _
  rw [and_31]
  have h9 : (32 : Nat) ^ 9 = 35184372088832 := by decide
  have tn : (BitVec.ofNat 64 p).toNat = p := by
    rw [BitVec.toNat_ofNat]
    exact Nat.mod_eq_of_lt (by omega)
  have m : (BitVec.ofNat 64 p).msb = false := by
    rw [BitVec.msb_eq_false_iff_two_mul_lt, tn]
    omega
  rw [BitVec.sshiftRight_eq_of_msb_false m, BitVec.toNat_ushiftRight, Nat.shiftRight_eq_div_pow, tn]
theorem lt5_3 {p : Nat} (hp : p < 32 ^ 9) : lt5 (Int64.ofNat p) 3 = Int32.ofNat (p / 32 ^ 5 % 32) := by
  unfold lt5
  have e : ((kI 3).toInt64 &&& 63) = 25 := by decide +kernel
  rw [e]
  apply i64_32 (Nat.mod_lt _ (by decide))
  show (((BitVec.ofNat 64 p).sshiftRight 25) &&& 31#64).toNat = _
  rw [and_31]
  have h9 : (32 : Nat) ^ 9 = 35184372088832 := by decide
  have tn : (BitVec.ofNat 64 p).toNat = p := by
    rw [BitVec.toNat_ofNat]
    exact Nat.mod_eq_of_lt (by omega)
  have m : (BitVec.ofNat 64 p).msb = false := by
    rw [BitVec.msb_eq_false_iff_two_mul_lt, tn]
    omega
  rw [BitVec.sshiftRight_eq_of_msb_false m, BitVec.toNat_ushiftRight, Nat.shiftRight_eq_div_pow, tn]
theorem lt5_4 {p : Nat} (hp : p < 32 ^ 9) : lt5 (Int64.ofNat p) 4 = Int32.ofNat (p / 32 ^ 4 % 32) := by
  unfold lt5
  have e : ((kI 4).toInt64 &&& 63) = 20 := by decide +kernel
  rw [e]
  apply i64_32 (Nat.mod_lt _ (by decide))
  show (((BitVec.ofNat 64 p).sshiftRight 20) &&& 31#64).toNat = _
  rw [and_31]
  have h9 : (32 : Nat) ^ 9 = 35184372088832 := by decide
  have tn : (BitVec.ofNat 64 p).toNat = p := by
    rw [BitVec.toNat_ofNat]
    exact Nat.mod_eq_of_lt (by omega)
  have m : (BitVec.ofNat 64 p).msb = false := by
    rw [BitVec.msb_eq_false_iff_two_mul_lt, tn]
    omega
  rw [BitVec.sshiftRight_eq_of_msb_false m, BitVec.toNat_ushiftRight, Nat.shiftRight_eq_div_pow, tn]
theorem lt5_5 {p : Nat} (hp : p < 32 ^ 9) : lt5 (Int64.ofNat p) 5 = Int32.ofNat (p / 32 ^ 3 % 32) := by
  unfold lt5
  have e : ((kI 5).toInt64 &&& 63) = 15 := by decide +kernel
  rw [e]
  apply i64_32 (Nat.mod_lt _ (by decide))
  show (((BitVec.ofNat 64 p).sshiftRight 15) &&& 31#64).toNat = _
  rw [and_31]
  have h9 : (32 : Nat) ^ 9 = 35184372088832 := by decide
  have tn : (BitVec.ofNat 64 p).toNat = p := by
    rw [BitVec.toNat_ofNat]
    exact Nat.mod_eq_of_lt (by omega)
  have m : (BitVec.ofNat 64 p).msb = false := by
    rw [BitVec.msb_eq_false_iff_two_mul_lt, tn]
    omega
  rw [BitVec.sshiftRight_eq_of_msb_false m, BitVec.toNat_ushiftRight, Nat.shiftRight_eq_div_pow, tn]
theorem lt5_6 {p : Nat} (hp : p < 32 ^ 9) : lt5 (Int64.ofNat p) 6 = Int32.ofNat (p / 32 ^ 2 % 32) := by
  unfold lt5
  have e : ((kI 6).toInt64 &&& 63) = 10 := by decide +kernel
  rw [e]
  apply i64_32 (Nat.mod_lt _ (by decide))
  show (((BitVec.ofNat 64 p).sshiftRight 10) &&& 31#64).toNat = _
  rw [and_31]
  have h9 : (32 : Nat) ^ 9 = 35184372088832 := by decide
  have tn : (BitVec.ofNat 64 p).toNat = p := by
    rw [BitVec.toNat_ofNat]
    exact Nat.mod_eq_of_lt (by omega)
  have m : (BitVec.ofNat 64 p).msb = false := by
    rw [BitVec.msb_eq_false_iff_two_mul_lt, tn]
    omega
  rw [BitVec.sshiftRight_eq_of_msb_false m, BitVec.toNat_ushiftRight, Nat.shiftRight_eq_div_pow, tn]
theorem lt5_7 {p : Nat} (hp : p < 32 ^ 9) : lt5 (Int64.ofNat p) 7 = Int32.ofNat (p / 32 ^ 1 % 32) := by
  unfold lt5
  have e : ((kI 7).toInt64 &&& 63) = 5 := by decide +kernel
  rw [e]
  apply i64_32 (Nat.mod_lt _ (by decide))
  show (((BitVec.ofNat 64 p).sshiftRight 5) &&& 31#64).toNat = _
  rw [and_31]
  have h9 : (32 : Nat) ^ 9 = 35184372088832 := by decide
  have tn : (BitVec.ofNat 64 p).toNat = p := by
    rw [BitVec.toNat_ofNat]
    exact Nat.mod_eq_of_lt (by omega)
  have m : (BitVec.ofNat 64 p).msb = false := by
    rw [BitVec.msb_eq_false_iff_two_mul_lt, tn]
    omega
  rw [BitVec.sshiftRight_eq_of_msb_false m, BitVec.toNat_ushiftRight, Nat.shiftRight_eq_div_pow, tn]
theorem lt5_8 {p : Nat} (hp : p < 32 ^ 9) : lt5 (Int64.ofNat p) 8 = Int32.ofNat (p / 32 ^ 0 % 32) := by
  unfold lt5
  have e : ((kI 8).toInt64 &&& 63) = 0 := by decide +kernel
  rw [e]
  apply i64_32 (Nat.mod_lt _ (by decide))
  show (((BitVec.ofNat 64 p).sshiftRight 0) &&& 31#64).toNat = _
  rw [and_31]
  have h9 : (32 : Nat) ^ 9 = 35184372088832 := by decide
  have tn : (BitVec.ofNat 64 p).toNat = p := by
    rw [BitVec.toNat_ofNat]
    exact Nat.mod_eq_of_lt (by omega)
  have m : (BitVec.ofNat 64 p).msb = false := by
    rw [BitVec.msb_eq_false_iff_two_mul_lt, tn]
    omega
  rw [BitVec.sshiftRight_eq_of_msb_false m, BitVec.toNat_ushiftRight, Nat.shiftRight_eq_div_pow, tn]
theorem lt5_ok {x : Nat × (Nat → Nat)} (hx : nmO x) : ∀ i, i < 9 → lt5 (Int64.ofNat (pkN x)) i = Int32.ofNat (leN x i) ∧ leN x i < 32 := by
  intro i hi
  have hp : pkN x < 32 ^ 9 := Nat.lt_of_lt_of_le (pkn_lt x.1 hx.2.2).1 (Nat.pow_le_pow_right (by decide) hx.2.1)
  refine ⟨?_, Nat.mod_lt _ (by decide)⟩
  have : i = 0 ∨ i = 1 ∨ i = 2 ∨ i = 3 ∨ i = 4 ∨ i = 5 ∨ i = 6 ∨ i = 7 ∨ i = 8 := by omega
  rcases this with rfl | rfl | rfl | rfl | rfl | rfl | rfl | rfl | rfl
  · exact lt5_0 hp
  · exact lt5_1 hp
  · exact lt5_2 hp
  · exact lt5_3 hp
  · exact lt5_4 hp
  · exact lt5_5 hp
  · exact lt5_6 hp
  · exact lt5_7 hp
  · exact lt5_8 hp
theorem nm_fl {x : Nat × (Nat → Nat)} (hx : nmO x) {t : Tt} : fl (nmS (leN x)) 9 0 t = tS x.1 x.2 t := by
  obtain ⟨h1, h2, h3⟩ := hx
  have e := fl_add (f := nmS (leN x)) (9 - x.1) x.1 0 t
  have z : ∀ i, i < 9 - x.1 → leN x i = 0 := fun i hi => by
    unfold leN
    rw [pk_dig x.1 (8 - i) h3, if_neg (by omega)]
  rw [show 9 - x.1 + x.1 = 9 by omega, fl_idI (9 - x.1) 0 t (fun j _ hj => by
    unfold nmS
    rw [z j (by omega), if_pos rfl]), Nat.zero_add] at e
  have go : ∀ (m i : Nat) (t : Tt), i + m = x.1 → fl (nmS (leN x)) m (9 - x.1 + i) t = fl (fun j t => tC (x.2 j) t) m i t := by
    intro m
    induction m with
    | zero => intro i t _; rfl
    | succ m ih =>
      intro i t hi
      have hc := h3 i (by omega)
      have le : leN x (9 - x.1 + i) = x.2 i - 96 := by
        unfold leN
        rw [pk_dig x.1 (8 - (9 - x.1 + i)) h3, if_pos (by omega), show x.1 - 1 - (8 - (9 - x.1 + i)) = i by omega]
      have st : nmS (leN x) (9 - x.1 + i) t = tC (x.2 i) t := by
        unfold nmS
        rw [le, if_neg (by omega), show 96 + (x.2 i - 96) = x.2 i by omega]
      show fl (nmS (leN x)) m (9 - x.1 + i + 1) (nmS (leN x) (9 - x.1 + i) t) = fl (fun j t => tC (x.2 j) t) m (i + 1) (tC (x.2 i) t)
      rw [st, show 9 - x.1 + i + 1 = 9 - x.1 + (i + 1) by omega]
      exact ih (i + 1) _ (by omega)
  rw [e, ← tS_fl x.1]
  exact go x.1 0 t (by omega)
theorem lb_eq {x : Nat × (Nat → Nat)} (hx : nmO x) {w wn e en : Nat} {ic : Option (Nat × Nat)} {t : Tt} : lbM (leN x) w wn e en ic t = lbT x.1 x.2 w wn e en ic t := by
  unfold lbM lbT
  cases ic <;> rw [nm_fl hx]
theorem all_eq {t : Tt} : tS 5 (wC ";all ") t = tS 4 (wC "all ") (tC 59 t) := by
  rw [← tS_fl 5, ← tS_fl 4]
  rfl
theorem rs_eq {nm : Nat → Nat × (Nat → Nat)} {ct tg ex la qu er : Rn} {t : Tt} : ∀ n, (∀ k, k < n + 1 → nmO (nm k)) → fl (rsK (fun k => (nm k).1) (fun k => (nm k).2) ct tg ex la qu er) (n + 1) 0 t = tC 59 (fl (mrK (fun k => leN (nm k)) ct tg ex la qu er) (n + 1) 0 t) := by
  intro n
  induction n with
  | zero =>
    intro hn
    show rsK (fun k => (nm k).1) (fun k => (nm k).2) ct tg ex la qu er 0 t = tC 59 (mrK (fun k => leN (nm k)) ct tg ex la qu er 0 t)
    unfold rsK mrK rsT mrB
    rw [nm_fl (hn 0 (by omega)), if_neg (by omega)]
  | succ n ih =>
    intro hn
    rw [fl_snoc (n + 1), ih (fun k hk => hn k (by omega)), fl_snoc (n + 1), Nat.zero_add]
    unfold rsK mrK rsT mrB
    rw [nm_fl (hn (n + 1) (by omega)), if_pos (by omega)]
theorem rs_len {nm : Nat → Nat} {nc : Nat → Nat → Nat} {ct tg ex la qu er : Rn} {t : Tt} : ∀ n, (∀ k, k < n → rsL (nm k) (ct k).2 (tg k).2 (ex k).2 (la k).2 (qu k).2 (er k).2 ≤ 60) → (fl (rsK nm nc ct tg ex la qu er) n 0 t).1 ≤ t.1 + 60 * n := by
  intro n
  induction n with
  | zero => intro _; exact Nat.le_refl _
  | succ n ih =>
    intro h
    have e : ∀ t', (rsK nm nc ct tg ex la qu er n t').1 = t'.1 + rsL (nm n) (ct n).2 (tg n).2 (ex n).2 (la n).2 (qu n).2 (er n).2 := fun t' => rsT_1
    rw [fl_snoc, Nat.zero_add, e]
    have h1 := ih (fun k hk => h k (by omega))
    have h2 := h n (by omega)
    omega
/-- a number's digits -/
def dgN (v : Nat) : Nat := if v < 10 then 1 else if v < 100 then 2 else if v < 1000 then 3 else if v < 10000 then 4 else if v < 100000 then 5 else if v < 1000000 then 6 else if v < 10000000 then 7 else if v < 100000000 then 8 else 9
theorem dg_ok {v : Nat} (h : v < 1000000000) : dgK v (dgN v) := by
  unfold dgK dgN
  split
  · exact ⟨by decide, by omega, Or.inl rfl⟩
  · split
    · exact ⟨by decide, by omega, Or.inr (by show 10 ^ 1 ≤ v; omega)⟩
    · split
      · exact ⟨by decide, by omega, Or.inr (by show 10 ^ 2 ≤ v; omega)⟩
      · split
        · exact ⟨by decide, by omega, Or.inr (by show 10 ^ 3 ≤ v; omega)⟩
        · split
          · exact ⟨by decide, by omega, Or.inr (by show 10 ^ 4 ≤ v; omega)⟩
          · split
            · exact ⟨by decide, by omega, Or.inr (by show 10 ^ 5 ≤ v; omega)⟩
            · split
              · exact ⟨by decide, by omega, Or.inr (by show 10 ^ 6 ≤ v; omega)⟩
              · split
                · exact ⟨by decide, by omega, Or.inr (by show 10 ^ 7 ≤ v; omega)⟩
                · exact ⟨by decide, by omega, Or.inr (by show 10 ^ 8 ≤ v; omega)⟩
theorem dg_9 {v : Nat} (h : v < 1000000000) : dgN v ≤ 9 := dgK_le (dg_ok h) (by omega) (by decide)
