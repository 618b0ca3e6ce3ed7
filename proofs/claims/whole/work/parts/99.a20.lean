-- ===== load of the class =====
theorem cp_self {h : Mm} {tk pr d c : Nat} : h.cp tk pr d c (h.mi tk) (h.mi pr) (fun o => h.mi (d + o)) (fun o => h.mi (c + o)) = h := by
  refine mm_ext rfl rfl ?_ rfl rfl
  funext a
  show (if a = tk then h.mi tk else if a = pr then h.mi pr else if d ≤ a ∧ a < d + 7 then h.mi (d + (a - d)) else if c ≤ a ∧ a < c + 19 then h.mi (c + (a - c)) else h.mi a) = h.mi a
  by_cases c1 : a = tk
  · rw [if_pos c1, c1]
  · by_cases c2 : a = pr
    · rw [if_neg c1, if_pos c2, c2]
    · by_cases c3 : d ≤ a ∧ a < d + 7
      · rw [if_neg c1, if_neg c2, if_pos c3, show d + (a - d) = a by omega]
      · by_cases c4 : c ≤ a ∧ a < c + 19
        · rw [if_neg c1, if_neg c2, if_neg c3, if_pos c4, show c + (a - c) = a by omega]
        · rw [if_neg c1, if_neg c2, if_neg c3, if_neg c4]
/-- the memory in which a text of n bytes is parsed -/
def ldM (h : Mm) (d c n : Nat) : Mm := prN (tkN (((h.si 200 1 0).nw (some (.inl 3)) 9).nw (some (.inl 6)) 6) (h.sz + 1) n) h.sz (h.sz + 1) d c
section NN
variable {g : Mm} {x t d c n a : Nat}
theorem prN_o (ha : a ≠ x) : (prN g x t d c).mi a = g.mi a := by
  unfold prN
  rw [mi_sr, mi_sr, mi_sr, mi_sa ha, mi_sa ha, mi_sa ha, mi_sa ha, mi_sa ha, mi_sa ha]
theorem prN_p : (prN g x t d c).mi x 3 = 0 ∧ (prN g x t d c).mi x 4 = 0 ∧ (prN g x t d c).mi x 5 = -1 := by
  unfold prN
  rw [mi_sr, mi_sr, mi_sr]
  refine ⟨?_, ?_, ?_⟩
  · rw [mi_sk (by decide), mi_sk (by decide), mi_sk (by decide), mi_sk (by decide), mi_sk (by decide), mi_ss]
  · rw [mi_sk (by decide), mi_sk (by decide), mi_sk (by decide), mi_sk (by decide), mi_ss]
  · rw [mi_sk (by decide), mi_sk (by decide), mi_sk (by decide), mi_ss]
theorem tkN_o (ha : a ≠ x) : (tkN g x n).mi a = g.mi a := by
  unfold tkN
  rw [mi_sa ha, mi_sr, mi_sa ha, mi_sa ha, mi_sa ha, mi_sa ha]
theorem tkN_t : (tkN g x n).mi x 1 = Int32.ofNat n ∧ (tkN g x n).mi x 3 = 0 := by
  unfold tkN
  refine ⟨mi_ss, ?_⟩
  rw [mi_sk (by decide), mi_sr, mi_sk (by decide), mi_sk (by decide), mi_ss]
end NN
section LD
variable {h : Mm} {d c n : Nat} {T : Nat → Nat}
theorem ld_kd : (ldM h d c n).kd = zu (zu h.kd h.sz (some (.inl 3))) (h.sz + 1) (some (.inl 6)) := rfl
theorem ld_sz : (ldM h d c n).sz = h.sz + 2 := rfl
theorem ld_ns : (ldM h d c n).ns = h.ns + 9 + 6 := rfl
theorem ld_nc : (ldM h d c n).nc = h.nc + 1 + 1 := rfl
theorem ld_k {a : Nat} (ha : a < h.sz) : (ldM h d c n).kd a = h.kd a := by
  rw [ld_kd, zu_o (by omega), zu_o (by omega)]
theorem ld_r {a : Nat} (ha : a < h.sz) : (ldM h d c n).mr a = h.mr a := by
  show zu2 (zu2 (zu2 (zu2 (zu (zu h.mr h.sz _) (h.sz + 1) _) (h.sz + 1) 0 _) h.sz 0 _) h.sz 1 _) h.sz 2 _ a = h.mr a
  rw [z2_o (by omega), z2_o (by omega), z2_o (by omega), z2_o (by omega), zu_o (by omega), zu_o (by omega)]
theorem ld_l {a : Nat} (ha : a < h.sz) : (ldM h d c n).ml a = h.ml a := by
  show zu (zu h.ml h.sz _) (h.sz + 1) _ a = h.ml a
  rw [zu_o (by omega), zu_o (by omega)]
theorem ld_i {a : Nat} (ha : a < h.sz) : (ldM h d c n).mi a = (h.si 200 1 0).mi a := by
  unfold ldM
  rw [prN_o (by omega), tkN_o (by omega), mi_nw, zu_o (by show a ≠ h.sz + 1; omega), mi_nw, zu_o (by show a ≠ h.sz; omega)]
theorem ld_p : (ldM h d c n).mi h.sz 3 = 0 ∧ (ldM h d c n).mi h.sz 4 = 0 ∧ (ldM h d c n).mi h.sz 5 = -1 := prN_p
theorem ld_t : (ldM h d c n).mi (h.sz + 1) 1 = Int32.ofNat n ∧ (ldM h d c n).mi (h.sz + 1) 3 = 0 := by
  unfold ldM
  rw [prN_o (by omega)]
  exact tkN_t
theorem ld_po (kb : h.kd 201 = some (.inr (.byte, 1500))) (U : SU h d) (S : ST h c) (hz : 291 ≤ h.sz) (hd : 201 < d) (dc : d + 7 ≤ c) (cz : c + 19 ≤ h.sz) (hc : c + 19 ≤ 273 ∨ 291 ≤ c) : PO (ldM h d c n) (h.sz + 1) h.sz d c := by
  refine ⟨⟨by omega, by omega, by omega, by omega, by omega, dc⟩, ?_, ?_, ?_, ?_, ?_, ?_, ?_, ?_, ?_, hd, hz, by omega, hc⟩
  · rw [ld_kd, zu_same]
  · show zu2 (zu2 (zu2 (zu2 (zu (zu h.mr h.sz (fun _ => none)) (h.sz + 1) (fun _ => none)) (h.sz + 1) 0 (some 201)) h.sz 0 (some (h.sz + 1))) h.sz 1 (some d)) h.sz 2 (some c) (h.sz + 1) 0 = some 201
    rw [z2_ne (by omega), z2_ne (by omega), z2_ne (by omega), z2_s]
  · rw [ld_k (by omega), kb]
  · rw [ld_kd, zu_o (by omega), zu_same]
  · show zu2 (zu2 (zu2 (zu2 (zu (zu h.mr h.sz (fun _ => none)) (h.sz + 1) (fun _ => none)) (h.sz + 1) 0 (some 201)) h.sz 0 (some (h.sz + 1))) h.sz 1 (some d)) h.sz 2 (some c) h.sz 0 = some (h.sz + 1)
    rw [z2_ne (by omega), z2_ne (by omega), z2_s]
  · show zu2 (zu2 (zu2 (zu2 (zu (zu h.mr h.sz (fun _ => none)) (h.sz + 1) (fun _ => none)) (h.sz + 1) 0 (some 201)) h.sz 0 (some (h.sz + 1))) h.sz 1 (some d)) h.sz 2 (some c) h.sz 1 = some d
    rw [z2_ne (by omega), z2_s]
  · exact z2_s
  · exact SU_of (h := h) (fun o ho => ld_k (by omega)) (ld_r (by omega)) U
  · exact ST_of (h := h) (fun o ho => ld_k (by omega)) (fun o ho => ld_r (by omega)) S
end LD
