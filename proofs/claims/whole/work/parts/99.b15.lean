-- ===== an item's species by its votes; a new item =====
theorem wf_nat {x y r : Nat} (hx : x ≤ 60000) (hy : 1 ≤ y) (hy2 : y ≤ 29997) (hr : r ≤ 9999) : ∃ w, w ≤ 60000 ∧ wfF (Int32.ofNat x) (Int32.ofNat y) (Int32.ofNat r) = Int32.ofNat w := by
  have hm : 2 * x * r ≤ 2 * 60000 * 9999 := Nat.mul_le_mul (by omega) hr
  have e : ((2 : Int64) * (Int32.ofNat x).toInt64 * (Int32.ofNat r).toInt64 + (Int32.ofNat y).toInt64) / (2 * (Int32.ofNat y).toInt64) = Int64.ofNat ((2 * x * r + y) / (2 * y)) := by
    rw [i64_of (by omega), i64_of (by omega), i64_of (by omega)]
    have e1 : (2 : Int64) * Int64.ofNat x = Int64.ofNat (2 * x) := (Int64.ofNat_mul 2 x).symm
    have e2 : (2 : Int64) * Int64.ofNat y = Int64.ofNat (2 * y) := (Int64.ofNat_mul 2 y).symm
    rw [e1, e2, ← Int64.ofNat_mul, ← Int64.ofNat_add]
    exact (Int64.ofNat_div (by omega) (by omega)).symm
  have hd : (2 * x * r + y) / (2 * y) ≤ 2 * x * r + y := Nat.div_le_self _ _
  generalize (2 * x * r + y) / (2 * y) = z at e hd
  have e6 : (60000 : Int64) < Int64.ofNat z ↔ 60000 < z := by
    rw [Int64.lt_iff_toInt_lt, Int64.toInt_ofNat_of_lt (by omega)]
    show (60000 : Int) < z ↔ _
    omega
  have cv : ∀ a, a ≤ 60000 → (Int64.ofNat a).toInt32 = Int32.ofNat a := fun a _ => by
    apply Int32.toBitVec_inj.mp
    show (BitVec.ofNat 64 a).signExtend 32 = BitVec.ofNat 32 a
    rw [BitVec.signExtend_eq_setWidth_of_le _ (by decide)]
    apply BitVec.eq_of_toNat_eq
    rw [BitVec.toNat_setWidth, BitVec.toNat_ofNat, BitVec.toNat_ofNat]
    omega
  unfold wfF
  rw [e]
  by_cases c : 60000 < z
  · rw [if_pos (e6.mpr c)]
    exact ⟨60000, Nat.le_refl _, cv 60000 (Nat.le_refl _)⟩
  · rw [if_neg (fun q => c (e6.mp q))]
    exact ⟨z, by omega, cv z (by omega)⟩
section DT
variable {ns m i pc n q tm : Nat} {du : Nat} {R : Nat → Nat → Int32} {S pl : Nat → Int32} {k j : Nat}
/-- an item's scores -/
def ScO (ns : Nat) (R : Nat → Nat → Int32) (S : Nat → Int32) (j : Nat) : Prop := ∀ k, k < 4 → S (368 + 4 * j + k) = R 12 (j * 4 + k) ∧ (∃ s, s ≤ 495 ∧ R 12 (j * 4 + k) = Int32.ofNat s) ∧ (ns ≤ k → R 12 (j * 4 + k) = 0)
theorem sc_fav (O : ScO ns R S j) (hs : 1 ≤ ns ∧ ns ≤ 4) (hj : j < 80) : favF R j = bkF S j ns ∧ favF R j < 4 ∧ claF R j = leadF S j ns := by
  have eV : ∀ k, k < 4 → S (368 + 4 * j + k) = R 12 (j * 4 + k) := fun k hk => (O k hk).1
  have st : ∀ k b, k < 4 → b < 4 → favS R j k b = bkS S j k b := fun k b hk hb => by
    unfold favS bkS
    rw [eV b hb, eV k hk]
  have l0 : (0 : Nat) < 4 := by decide
  have lt : ∀ k b, k < 4 → b < 4 → favS R j k b < 4 := fun k b hk hb => favS_l hk hb
  have f1 := lt 1 0 (by decide) l0
  have f2 := lt 2 _ (by decide) f1
  have f3 := lt 3 _ (by decide) f2
  have u : favF R j = favS R j 3 (favS R j 2 (favS R j 1 0)) := rfl
  have z : ∀ k b, ns ≤ k → k < 4 → b < 4 → favS R j k b = b := fun k b h1 h2 h3 => fav_z ((O k h2).2.2 h1) (O b h3).2.1
  have ef : favF R j = bkF S j ns := by
    rw [u]
    have : ns = 1 ∨ ns = 2 ∨ ns = 3 ∨ ns = 4 := by omega
    rcases this with rfl | rfl | rfl | rfl
    · show _ = 0
      rw [z 1 0 (by decide) (by decide) l0, z 2 0 (by decide) (by decide) l0, z 3 0 (by decide) (by decide) l0]
    · show _ = bkS S j 1 0
      rw [z 3 _ (by decide) (by decide) f2, z 2 _ (by decide) (by decide) f1, st 1 0 (by decide) l0]
    · show _ = bkS S j 2 (bkS S j 1 0)
      rw [z 3 _ (by decide) (by decide) f2, st 2 _ (by decide) f1, st 1 0 (by decide) l0]
    · show _ = bkS S j 3 (bkS S j 2 (bkS S j 1 0))
      rw [st 3 _ (by decide) f2, st 2 _ (by decide) f1, st 1 0 (by decide) l0]
  have lf4 : favF R j < 4 := by rw [u]; exact f3
  refine ⟨ef, lf4, ?_⟩
  unfold claF leadF
  rw [← ef, eV _ lf4]
  congr 1
  generalize favF R j = g at lf4
  have st2 : ∀ k a, k < 4 → clS R j g k a = ldS S j g k a := fun k a hk => by
    unfold clS ldS
    rw [eV k hk]
  have nn : ∀ k a, k < 4 → (∃ s, s ≤ 495 ∧ a = Int32.ofNat s) → ∃ s, s ≤ 495 ∧ clS R j g k a = Int32.ofNat s := fun k a hk ha => by
    unfold clS
    split
    · exact ha
    · split
      · exact (O k hk).2.1
      · exact ha
  have a0 : ∃ s, s ≤ 495 ∧ (0 : Int32) = Int32.ofNat s := ⟨0, by decide, rfl⟩
  have b0 := nn 0 0 (by decide) a0
  have b1 := nn 1 _ (by decide) b0
  have b2 := nn 2 _ (by decide) b1
  have z2 : ∀ k a, ns ≤ k → k < 4 → (∃ s, s ≤ 495 ∧ a = Int32.ofNat s) → clS R j g k a = a := fun k a h1 h2 ha => cl_z ((O k h2).2.2 h1) ha
  show clS R j g 3 (clS R j g 2 (clS R j g 1 (clS R j g 0 0))) = _
  have : ns = 1 ∨ ns = 2 ∨ ns = 3 ∨ ns = 4 := by omega
  rcases this with rfl | rfl | rfl | rfl
  · show _ = ldS S j g 0 0
    rw [z2 3 _ (by decide) (by decide) b2, z2 2 _ (by decide) (by decide) b1, z2 1 _ (by decide) (by decide) b0, st2 0 0 (by decide)]
  · show _ = ldS S j g 1 (ldS S j g 0 0)
    rw [z2 3 _ (by decide) (by decide) b2, z2 2 _ (by decide) (by decide) b1, st2 1 _ (by decide), st2 0 0 (by decide)]
  · show _ = ldS S j g 2 (ldS S j g 1 (ldS S j g 0 0))
    rw [z2 3 _ (by decide) (by decide) b2, st2 2 _ (by decide), st2 1 _ (by decide), st2 0 0 (by decide)]
  · show _ = ldS S j g 3 (ldS S j g 2 (ldS S j g 1 (ldS S j g 0 0)))
    rw [st2 3 _ (by decide), st2 2 _ (by decide), st2 1 _ (by decide), st2 0 0 (by decide)]
theorem fav_s {b : Nat} : R 12 (j * 4 + b) ≤ R 12 (j * 4 + favS R j k b) ∧ R 12 (j * 4 + k) ≤ R 12 (j * 4 + favS R j k b) := by
  unfold favS
  by_cases c : R 12 (j * 4 + b) < R 12 (j * 4 + k)
  · rw [if_pos c]
    exact ⟨Int32.le_of_lt c, Int32.le_refl _⟩
  · rw [if_neg c]
    exact ⟨Int32.le_refl _, Int32.not_lt.mp c⟩
theorem fav_max (hk : k < 4) : R 12 (j * 4 + k) ≤ R 12 (j * 4 + favF R j) := by
  have u : favF R j = favS R j 3 (favS R j 2 (favS R j 1 0)) := rfl
  rw [u]
  have a3 := fav_s (R := R) (j := j) (k := 3) (b := favS R j 2 (favS R j 1 0))
  have a2 := fav_s (R := R) (j := j) (k := 2) (b := favS R j 1 0)
  have a1 := fav_s (R := R) (j := j) (k := 1) (b := 0)
  have : k = 0 ∨ k = 1 ∨ k = 2 ∨ k = 3 := by omega
  rcases this with rfl | rfl | rfl | rfl
  · exact Int32.le_trans a1.1 (Int32.le_trans a2.1 a3.1)
  · exact Int32.le_trans a1.2 (Int32.le_trans a2.1 a3.1)
  · exact Int32.le_trans a2.2 a3.1
  · exact a3.2
theorem dt_eq {mg : Int32} (O : ScO ns R S j) (hs : 1 ≤ ns ∧ ns ≤ 4) (hj : j < 80) (hm : pl 1 = mg) (hk : k < 4) (hp : 0 < R 12 (j * 4 + k)) : dtF R j mg = kbF S pl j ns := by
  obtain ⟨e1, e2, e3⟩ := sc_fav O hs hj
  have h0 : 0 < R 12 (j * 4 + favF R j) := Int32.lt_of_lt_of_le hp (fav_max hk)
  unfold dtF kbF
  rw [e3, ← e1, hm]
  by_cases c : leadF S j ns < mg
  · rw [if_pos c, if_neg (fun z => Int32.lt_irrefl (Int32.lt_of_lt_of_le c z.2))]
  · rw [if_neg c, if_pos ⟨h0, Int32.not_lt.mp c⟩]
theorem dt_z {mg : Int32} (hz : ∀ k, k < 4 → R 12 (j * 4 + k) = 0) (hf : favF R j < 4) : dtF R j mg = -1 := by
  unfold dtF
  rw [if_neg]
  rw [hz _ hf]
  exact fun z => absurd z.1 (by decide)
theorem dt_r {mg : Int32} (O : ScO ns R S j) (hs : 1 ≤ ns ∧ ns ≤ 4) (hj : j < 80) : dtF R j mg = -1 ∨ ∃ k, k < ns ∧ dtF R j mg = Int32.ofNat k := by
  obtain ⟨e1, e2, -⟩ := sc_fav O hs hj
  unfold dtF
  split
  · exact Or.inr ⟨favF R j, by rw [e1]; exact (bkF_lt hs.2).2 hs.1, rfl⟩
  · exact Or.inl rfl
end DT
