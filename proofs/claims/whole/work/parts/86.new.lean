-- ===== a new state: its cells =====
theorem zu_k {α : Type} {f : Nat → α} {k j : Nat} {v : α} : zu f k v j = if j = k then v else f j := rfl
theorem zu2_k {α : Type} {f : Nat → Nat → α} {a k b j : Nat} {v : α} : zu2 f a k v b j = if b = a then (if j = k then v else f a j) else f b j := by
  unfold zu2 zu; split <;> rfl
theorem it_ap {α : Type} {c : Prop} [Decidable c] {f g : Nat → α} {k : Nat} : (if c then f else g) k = if c then f k else g k := by split <;> rfl
theorem sz_n18 {h : Mm} {x : Nat} (hs : h.sz = x + 1) : (cnS h x).sz = x + 19 := by rw [sz_cnS, hs]
theorem cnS_ST {h : Mm} {x : Nat} (hs : h.sz = x + 1) (hk : h.kd x = some (.inl 5)) : ST (cnS h x) x := by
  unfold ST
  refine ⟨?_, ?_, ?_, ?_, ?_, ?_, ?_, ?_, ?_, ?_, ?_, ?_, ?_, ?_, ?_, ?_, ?_, ?_, ?_, ?_, ?_, ?_, ?_, ?_, ?_, ?_, ?_, ?_, ?_, ?_, ?_, ?_, ?_, ?_, ?_, ?_, ?_⟩ <;>
    simp [cnS, cnI, cnB, kd_sr, kd_si, kd_nw', mr_sr, mr_si, mr_nw, sz_nw, sz_si, sz_sr, zu_k, zu2, zu, it_ap, Nat.add_assoc, hs, hk]
def Fr (x : Nat) (h h' : Mm) : Prop := ∀ a, a < x → h'.kd a = h.kd a ∧ h'.mi a = h.mi a ∧ h'.ml a = h.ml a ∧ h'.mr a = h.mr a
theorem Fr.rf {x : Nat} {h : Mm} : Fr x h h := fun _ _ => ⟨rfl, rfl, rfl, rfl⟩
theorem Fr.nw {x : Nat} {h h' : Mm} {k : Kd} {n : Nat} (F : Fr x h h') (hx : x ≤ h'.sz) : Fr x h (h'.nw k n) := fun a ha => by
  obtain ⟨f1, f2, f3, f4⟩ := F a ha
  refine ⟨?_, ?_, ?_, ?_⟩
  · rw [kd_nw', zu_o (by omega), f1]
  · rw [mi_nw, zu_o (by omega), f2]
  · rw [ml_nw, zu_o (by omega), f3]
  · rw [mr_nw, zu_o (by omega), f4]
theorem Fr.si {x a k : Nat} {h h' : Mm} {v : Int32} (F : Fr x h h') (hx : x ≤ a) : Fr x h (h'.si a k v) := fun b hb => by
  obtain ⟨f1, f2, f3, f4⟩ := F b hb
  refine ⟨f1, ?_, f3, f4⟩
  rw [mi_sa (by omega), f2]
theorem Fr.sr {x a k : Nat} {h h' : Mm} {v : Option Nat} (F : Fr x h h') (hx : x ≤ a) : Fr x h (h'.sr a k v) := fun b hb => by
  obtain ⟨f1, f2, f3, f4⟩ := F b hb
  refine ⟨f1, f2, f3, ?_⟩
  rw [mr_sr]
  unfold zu2
  rw [if_neg (by omega), f4]
theorem Fr.cnI {x y : Nat} {h h' : Mm} (F : Fr x h h') (hx : x ≤ h'.sz) (hy : x ≤ y) : Fr x h (cnI h' y) := by
  have e0 : x ≤ h'.sz + 1 := by omega
  have e1 : x ≤ h'.sz + 2 := by omega
  have e2 : x ≤ h'.sz + 3 := by omega
  have e3 : x ≤ h'.sz + 4 := by omega
  exact (((((((((((F.si hy).si hy).nw hx).sr hy).nw e0).sr hy).nw e1).sr hy).nw e2).sr hy).nw e3).sr hy
theorem Fr.cnB {x y : Nat} {h h' : Mm} (F : Fr x h h') (hx : x ≤ h'.sz) (hy : x ≤ y) : Fr x h (cnB h' y) := by
  have e0 : x ≤ h'.sz + 1 := by omega
  have e1 : x ≤ h'.sz + 2 := by omega
  have e2 : x ≤ h'.sz + 3 := by omega
  have e3 : x ≤ h'.sz + 4 := by omega
  exact (((((((((((F.si hy).si hy).nw hx).sr hy).nw e0).sr hy).nw e1).sr hy).nw e2).sr hy).nw e3).sr hy
theorem cnS_fr {h : Mm} {x : Nat} (hs : h.sz = x + 1) : Fr x h (cnS h x) := by
  have hy : x ≤ x := Nat.le_refl x
  have e0 : x ≤ h.sz := by omega
  have e1 : x ≤ h.sz + 1 := by omega
  have e2 : x ≤ h.sz + 2 := by omega
  have e3 : x ≤ h.sz + 3 := by omega
  have e4 : x ≤ h.sz + 4 := by omega
  have e5 : x ≤ h.sz + 5 := by omega
  have e6 : x ≤ h.sz + 6 := by omega
  have e7 : x ≤ h.sz + 7 := by omega
  have e12 : x ≤ h.sz + 12 := by omega
  have e13 : x ≤ h.sz + 13 := by omega
  have F0 : Fr x h ((((((h.si x 0 0).si x 1 0).si x 2 0).si x 3 0).si x 4 0).si x 5 0) := ((((((Fr.rf (h := h) (x := x)).si hy).si hy).si hy).si hy).si hy).si hy
  exact ((((((((((((((((((F0.nw e0).sr hy).nw e1).sr hy).nw e2).sr hy).nw e3).sr hy).nw e4).sr hy).nw e5).sr hy).nw e6).cnI e7 e6).sr hy).nw e12).cnB e13 e12).sr hy)
theorem cnS_0 {h : Mm} {x o : Nat} (hs : h.sz = x + 1) (hz : h.mi x = fun _ => 0) (ho : o < 19) : (cnS h x).mi (x + o) = fun _ => 0 := by
  have : o = 0 ∨ o = 1 ∨ o = 2 ∨ o = 3 ∨ o = 4 ∨ o = 5 ∨ o = 6 ∨ o = 7 ∨ o = 8 ∨ o = 9 ∨ o = 10 ∨ o = 11 ∨ o = 12 ∨ o = 13 ∨ o = 14 ∨ o = 15 ∨ o = 16 ∨ o = 17 ∨ o = 18 := by omega
  funext j
  rcases this with rfl | rfl | rfl | rfl | rfl | rfl | rfl | rfl | rfl | rfl | rfl | rfl | rfl | rfl | rfl | rfl | rfl | rfl | rfl <;>
    simp [cnS, cnI, cnB, mi_sr, mi_si, mi_nw, sz_nw, sz_si, sz_sr, zu_k, zu2, zu, it_ap, Nat.add_assoc, hs, hz]
