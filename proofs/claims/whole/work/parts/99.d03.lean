-- ===== the constants =====
def zTm : List (String × Nat) := [("FishGrader$Kind", 7), ("FishGrader", 376), ("FishGrader", 378), ("FishGrader", 385), ("FishGraderModel", 123), ("FishGraderModel", 125), ("FishGraderModel", 131), ("FishGraderModel", 133), ("FishGraderModel", 135), ("FishGraderModel", 178), ("FishGraderModel", 183), ("FishGraderModel", 188), ("FishGraderModel", 142), ("FishGraderModel", 151), ("FishGraderModel", 153), ("FishGraderModel", 156), ("FishGraderModel", 158), ("FishGraderModel", 193), ("FishGraderModel", 170), ("FishGraderModel", 172), ("FishGraderModel", 378), ("FishGraderModel", 383), ("FishGraderModel", 385), ("FishGrader$Word", 73), ("FishGrader$Word", 79), ("FishGrader$Word", 82), ("FishGrader$Word", 85), ("FishGrader$Word", 88), ("FishGrader$Word", 91), ("FishGrader$Word", 94), ("FishGrader$Word", 97), ("FishGrader$Word", 100), ("FishGrader$Word", 103), ("FishGrader$Word", 106), ("FishGrader$Word", 109), ("FishGrader$Word", 112), ("FishGrader$Word", 115), ("FishGrader$Word", 118)]
def zLen : List Nat := [0, 4, 3, 4, 8, 11, 8, 7, 6, 5, 6, 9, 92, 8, 7, 7, 7, 6, 5, 6, 4, 3, 5, 6, 9, 6, 5, 4, 3, 4, 7, 6, 5, 5, 5, 4, 3, 4]
def zByt : List (List Int32) := [[], [119, 97, 105, 116], [105, 99, 101], [97, 108, 108, 32], [32, 103, 114, 97, 100, 101, 114, 32], [32, 114, 101, 102, 101, 114, 101, 110, 99, 101, 32], [32, 109, 97, 114, 103, 105, 110, 32], [32, 108, 105, 109, 105, 116, 32], [32, 112, 111, 111, 108, 32], [32, 105, 99, 101, 32], [32, 115, 116, 111, 112, 32], [32, 115, 112, 101, 99, 105, 101, 115, 32], [32, 103, 114, 97, 100, 101, 114, 32, 114, 101, 102, 101, 114, 101, 110, 99, 101, 32, 109, 97, 114, 103, 105, 110, 32, 108, 105, 109, 105, 116, 32, 112, 111, 111, 108, 32, 105, 99, 101, 32, 115, 116, 111, 112, 32, 115, 112, 101, 99, 105, 101, 115, 32, 116, 97, 114, 103, 101, 116, 32, 113, 117, 111, 116, 97, 32, 98, 111, 120, 101, 115, 32, 112, 114, 105, 99, 101, 32, 105, 116, 101, 109, 32, 97, 110, 100, 32, 118, 111, 116, 101, 32], [32, 116, 97, 114, 103, 101, 116, 32], [32, 113, 117, 111, 116, 97, 32], [32, 98, 111, 120, 101, 115, 32], [32, 112, 114, 105, 99, 101, 32], [32, 105, 116, 101, 109, 32], [32, 97, 110, 100, 32], [32, 118, 111, 116, 101, 32], [119, 97, 105, 116], [105, 99, 101], [59, 97, 108, 108, 32], [103, 114, 97, 100, 101, 114], [114, 101, 102, 101, 114, 101, 110, 99, 101], [109, 97, 114, 103, 105, 110], [108, 105, 109, 105, 116], [112, 111, 111, 108], [105, 99, 101], [115, 116, 111, 112], [115, 112, 101, 99, 105, 101, 115], [116, 97, 114, 103, 101, 116], [113, 117, 111, 116, 97], [98, 111, 120, 101, 115], [112, 114, 105, 99, 101], [105, 116, 101, 109], [97, 110, 100], [118, 111, 116, 101]]
def zKd (L i : Nat) : Kd := if i < 76 then (if i % 2 = 0 then some (.inl 1009) else some (.inr (.array .byte, zLen.getD (i / 2) 0))) else if i < 91 then some (.inl 1011) else if i = 91 then some (.inr (.array (.object "FishGrader$Word"), 15)) else if i < 94 then some (.inr (.array .byte, 100)) else if i = 94 then some (.inr (.array .int, L)) else none
def zMi (xs : Nat → Int32) (i k : Nat) : Int32 := if i < 76 then (if i % 2 = 0 then 0 else (zByt.getD (i / 2) []).getD k 0) else if i = 92 then (if k < 100 then Int32.ofNat (48 + k % 10) else 0) else if i = 93 then (if k < 100 then Int32.ofNat (48 + k / 10) else 0) else if i = 94 then xs k else 0
def zMr (i k : Nat) : Option Nat := if i < 76 then (if i % 2 = 0 ∧ k = 0 then some (i + 1) else none) else if i < 91 then (if k = 0 then some (46 + 2 * (i - 76)) else none) else if i = 91 then (if k < 15 then some (76 + k) else none) else none
def zT (L : Nat) (xs : Nat → Int32) : St := (zKd L, zMi xs, zMr)
def z0 (L : Nat) (xs : Nat → Int32) : Mm := ((200, 0, 0), zKd L, zMi xs, fun _ _ => 0, zMr)
section ZK
variable {L : Nat} {xs : Nat → Int32}
theorem z_kd (i : Nat) : (i < 76 ∧ i % 2 = 0 ∧ zKd L i = some (.inl 1009)) ∨ (i < 76 ∧ i % 2 = 1 ∧ zKd L i = some (.inr (.array .byte, zLen.getD (i / 2) 0))) ∨ (76 ≤ i ∧ i < 91 ∧ zKd L i = some (.inl 1011)) ∨ (i = 91 ∧ zKd L i = some (.inr (.array (.object "FishGrader$Word"), 15))) ∨ ((i = 92 ∨ i = 93) ∧ zKd L i = some (.inr (.array .byte, 100))) ∨ (i = 94 ∧ zKd L i = some (.inr (.array .int, L))) ∨ (94 < i ∧ zKd L i = none) := by
  unfold zKd
  by_cases c1 : i < 76
  · by_cases c2 : i % 2 = 0
    · exact Or.inl ⟨c1, c2, by rw [if_pos c1, if_pos c2]⟩
    · exact Or.inr (Or.inl ⟨c1, by omega, by rw [if_pos c1, if_neg c2]⟩)
  · by_cases c3 : i < 91
    · exact Or.inr (Or.inr (Or.inl ⟨by omega, c3, by rw [if_neg c1, if_pos c3]⟩))
    · by_cases c4 : i = 91
      · exact Or.inr (Or.inr (Or.inr (Or.inl ⟨c4, by rw [if_neg c1, if_neg c3, if_pos c4]⟩)))
      · by_cases c5 : i < 94
        · exact Or.inr (Or.inr (Or.inr (Or.inr (Or.inl ⟨by omega, by rw [if_neg c1, if_neg c3, if_neg c4, if_pos c5]⟩))))
        · by_cases c6 : i = 94
          · exact Or.inr (Or.inr (Or.inr (Or.inr (Or.inr (Or.inl ⟨c6, by rw [if_neg c1, if_neg c3, if_neg c4, if_neg c5, if_pos c6]⟩)))))
          · exact Or.inr (Or.inr (Or.inr (Or.inr (Or.inr (Or.inr ⟨by omega, by rw [if_neg c1, if_neg c3, if_neg c4, if_neg c5, if_neg c6]⟩)))))
theorem z_mr {i k j : Nat} (h : zMr i k = some j) : j < 200 := by
  unfold zMr at h
  split at h
  · split at h
    · injection h with h
      omega
    · cases h
  · split at h
    · split at h
      · injection h with h
        omega
      · cases h
    · split at h
      · split at h
        · injection h with h
          omega
        · cases h
      · cases h
theorem z_stT : stT (zT L xs) := by
  intro i hi
  refine ⟨fun c h => ?_, fun ty n h => ?_, fun k j h => z_mr h⟩
  · have h : zKd L i = some (.inl c) := h
    rcases z_kd (L := L) i with ⟨-, -, e⟩ | ⟨-, -, e⟩ | ⟨-, -, e⟩ | ⟨-, e⟩ | ⟨-, e⟩ | ⟨-, e⟩ | ⟨-, e⟩ <;> rw [e] at h <;> first | cases h | skip
    · decide
    · decide
  · have h : zKd L i = some (.inr (ty, n)) := h
    rcases z_kd (L := L) i with ⟨-, -, e⟩ | ⟨-, -, e⟩ | ⟨-, -, e⟩ | ⟨-, e⟩ | ⟨-, e⟩ | ⟨-, e⟩ | ⟨-, e⟩ <;> rw [e] at h <;> cases h <;> exact ⟨_, rfl⟩
theorem z_stC : stC (zT L xs) := by
  intro i c hi h
  have h : zKd L i = some (.inl c) := h
  rcases z_kd (L := L) i with ⟨-, -, e⟩ | ⟨-, -, e⟩ | ⟨-, -, e⟩ | ⟨-, e⟩ | ⟨-, e⟩ | ⟨-, e⟩ | ⟨-, e⟩ <;> rw [e] at h <;> cases h
  · exact Or.inl rfl
  · exact Or.inr rfl
theorem z_byt : ∀ l ∈ zByt, ∀ x ∈ l, fits .byte (.int x) = true := by decide +kernel
theorem z_dig : ∀ k : Fin 100, fits .byte (.int (Int32.ofNat (48 + k.val % 10))) = true ∧ fits .byte (.int (Int32.ofNat (48 + k.val / 10))) = true := by decide +kernel
theorem z_f0 : fits .byte (.int 0) = true := by decide
theorem gD_mem {α : Type} {l : List α} {k : Nat} {d : α} : l.getD k d ∈ l ∨ l.getD k d = d := by
  rw [List.getD_eq_getElem?_getD]
  cases h : l[k]? with
  | none => exact Or.inr rfl
  | some x => exact Or.inl (List.mem_of_getElem? h)
theorem z_bf {j k : Nat} : fits .byte (.int ((zByt.getD j []).getD k 0)) = true := by
  rcases gD_mem (l := zByt.getD j []) (k := k) (d := (0 : Int32)) with h | h
  · rcases gD_mem (l := zByt) (k := j) (d := ([] : List Int32)) with h2 | h2
    · exact z_byt _ h2 _ h
    · rw [h2] at h
      cases h
  · rw [h]
    exact z_f0
theorem z_stB : stB8 (zT L xs) := by
  intro i n hi h k
  have h : zKd L i = some (.inr (.array .byte, n)) := h
  show fits .byte (.int (zMi xs i k)) = true
  unfold zMi
  rcases z_kd (L := L) i with ⟨-, -, e⟩ | ⟨c1, c2, e⟩ | ⟨-, -, e⟩ | ⟨-, e⟩ | ⟨c, e⟩ | ⟨-, e⟩ | ⟨-, e⟩
  · rw [e] at h; cases h
  · rw [if_pos c1, if_neg (by omega)]
    exact z_bf
  · rw [e] at h; cases h
  · rw [e] at h; cases h
  · rcases c with rfl | rfl
    · rw [if_neg (by decide), if_pos rfl]
      by_cases q : k < 100
      · rw [if_pos q]
        exact (z_dig ⟨k, q⟩).1
      · rw [if_neg q]
        exact z_f0
    · rw [if_neg (by decide), if_neg (by decide), if_pos rfl]
      by_cases q : k < 100
      · rw [if_pos q]
        exact (z_dig ⟨k, q⟩).2
      · rw [if_neg q]
        exact z_f0
  · rw [e] at h; cases h
  · rw [e] at h; cases h
theorem z_no {i : Nat} (hi : 200 ≤ i) : zKd L i = none := by
  rcases z_kd (L := L) i with ⟨c, -, e⟩ | ⟨c, -, e⟩ | ⟨-, c, e⟩ | ⟨c, e⟩ | ⟨c, e⟩ | ⟨c, e⟩ | ⟨-, e⟩
  · omega
  · omega
  · omega
  · omega
  · omega
  · omega
  · exact e
theorem z_ok : okM (zT L xs) (z0 L xs) := by
  refine ⟨Nat.le_refl _, fun i hi => z_no hi, fun i hi => ⟨rfl, rfl, rfl⟩, fun i k j h => z_mr h, fun i n h => ?_, fun i hi => ⟨fun c h => ?_, fun ty n h => ?_⟩⟩
  · have h : zKd L i = some (.inr (.byte, n)) := h
    rcases z_kd (L := L) i with ⟨-, -, e⟩ | ⟨-, -, e⟩ | ⟨-, -, e⟩ | ⟨-, e⟩ | ⟨-, e⟩ | ⟨-, e⟩ | ⟨-, e⟩ <;> rw [e] at h <;> cases h
  · have h : zKd L i = some (.inl c) := h
    rw [z_no hi] at h
    cases h
  · have h : zKd L i = some (.inr (ty, n)) := h
    rw [z_no hi] at h
    cases h
theorem z_str {j n p q : Nat} {c : Nat → Nat} (hj : j < 38) (hp : p = 2 * j) (hq : q = 2 * j + 1) (hn : zLen.getD j 0 = n) (h1 : n < 1000) (hc : ∀ k, k < n → c k < 128 ∧ (zByt.getD j []).getD k 0 = Int32.ofNat (c k)) : STR (z0 L xs) p q n c := by
  subst hp
  subst hq
  have e2 : (2 * j + 1) / 2 = j := by omega
  refine ⟨?_, ?_, Or.inr ⟨?_, ?_⟩, h1, fun k hk => ⟨(hc k hk).1, ?_⟩⟩
  · show zMr (2 * j) 0 = some (2 * j + 1)
    unfold zMr
    rw [if_pos (by omega), if_pos ⟨by omega, rfl⟩]
  · show zMi xs (2 * j) 1 = 0
    unfold zMi
    rw [if_pos (by omega), if_pos (by omega)]
  · show zKd L (2 * j) = some (.inl 1009)
    unfold zKd
    rw [if_pos (by omega), if_pos (by omega)]
  · show zKd L (2 * j + 1) = some (.inr (.array .byte, n))
    unfold zKd
    rw [if_pos (by omega), if_neg (by omega), e2, hn]
  · show zMi xs (2 * j + 1) k = Int32.ofNat (c k)
    unfold zMi
    rw [if_pos (by omega), if_neg (by omega), e2]
    exact (hc k hk).2
theorem z_kw : ∀ i : Fin 15, zLen.getD (23 + i.val) 0 = kwN i.val ∧ kwN i.val ≤ 9 ∧ ∀ k : Fin 9, k.val < kwN i.val → kwC i.val k.val < 128 ∧ (zByt.getD (23 + i.val) []).getD k.val 0 = Int32.ofNat (kwC i.val k.val) := by decide +kernel
theorem z_sp : ∀ i : Fin 15, zLen.getD (mI i.val / 2) 0 = kwN i.val + 2 ∧ ∀ k : Fin 11, k.val < kwN i.val + 2 → spC i.val k.val < 128 ∧ (zByt.getD (mI i.val / 2) []).getD k.val 0 = Int32.ofNat (spC i.val k.val) := by decide +kernel
theorem z_rv : ∀ k : Fin 92, rvC k.val < 128 ∧ (zByt.getD 12 []).getD k.val 0 = Int32.ofNat (rvC k.val) := by decide +kernel
theorem z_w1 : ∀ k : Fin 4, wC "wait" k.val < 128 ∧ (zByt.getD 1 []).getD k.val 0 = Int32.ofNat (wC "wait" k.val) ∧ (zByt.getD 20 []).getD k.val 0 = Int32.ofNat (wC "wait" k.val) := by decide +kernel
theorem z_w2 : ∀ k : Fin 3, wC "ice" k.val < 128 ∧ (zByt.getD 2 []).getD k.val 0 = Int32.ofNat (wC "ice" k.val) ∧ (zByt.getD 21 []).getD k.val 0 = Int32.ofNat (wC "ice" k.val) := by decide +kernel
theorem z_w3 : ∀ k : Fin 4, wC "all " k.val < 128 ∧ (zByt.getD 3 []).getD k.val 0 = Int32.ofNat (wC "all " k.val) := by decide +kernel
theorem z_w4 : ∀ k : Fin 5, wC ";all " k.val < 128 ∧ (zByt.getD 22 []).getD k.val 0 = Int32.ofNat (wC ";all " k.val) := by decide +kernel
theorem z_sta (hL : L ≤ 3072) : STA (z0 L xs) 94 L := by
  refine ⟨⟨fun i hi => ⟨?_, ?_, ?_⟩, ?_, fun i hi => ?_⟩, ⟨rfl, rfl, fun r hr => ⟨?_, ?_⟩⟩, ⟨?_, ?_, ?_⟩, ⟨fun i hi => ⟨?_, ?_⟩, ?_, rfl⟩, ⟨?_, ?_, ?_⟩, by decide, rfl, hL⟩
  · show zKd L (76 + i) = some (.inl 1011)
    unfold zKd
    rw [if_neg (by omega), if_pos (by omega)]
  · show zMr (76 + i) 0 = some (46 + 2 * i)
    unfold zMr
    rw [if_neg (by omega), if_pos (by omega), if_pos rfl, show 76 + i - 76 = i by omega]
  · obtain ⟨a, b, c⟩ := z_kw ⟨i, hi⟩
    have b : kwN i ≤ 9 := b
    exact z_str (j := 23 + i) (by omega) (by omega) (by omega) a (by omega) (fun k hk => c ⟨k, by omega⟩ hk)
  · rfl
  · show zMr 91 i = some (76 + i)
    unfold zMr
    rw [if_neg (by decide), if_neg (by decide), if_pos rfl, if_pos hi]
  · show zMi xs 92 r = _
    unfold zMi
    rw [if_neg (by decide), if_pos rfl, if_pos hr]
  · show zMi xs 93 r = _
    unfold zMi
    rw [if_neg (by decide), if_neg (by decide), if_pos rfl, if_pos hr]
  · exact z_str (j := 1) (by decide) rfl rfl rfl (by decide) (fun k hk => ⟨(z_w1 ⟨k, hk⟩).1, (z_w1 ⟨k, hk⟩).2.1⟩)
  · exact z_str (j := 2) (by decide) rfl rfl rfl (by decide) (fun k hk => ⟨(z_w2 ⟨k, hk⟩).1, (z_w2 ⟨k, hk⟩).2.1⟩)
  · exact z_str (j := 3) (by decide) rfl rfl rfl (by decide) (fun k hk => z_w3 ⟨k, hk⟩)
  · obtain ⟨-, b, -⟩ := z_kw ⟨i, hi⟩
    obtain ⟨a, c⟩ := z_sp ⟨i, hi⟩
    have b : kwN i ≤ 9 := b
    have hm : mI i % 2 = 0 ∧ mI i < 76 := by
      unfold mI
      split <;> omega
    exact z_str (j := mI i / 2) (by omega) (by omega) (by omega) a (by omega) (fun k hk => c ⟨k, by omega⟩ hk)
  · have hm : mI i % 2 = 0 ∧ mI i < 76 := by
      unfold mI
      split <;> omega
    show zKd L (mI i) = some (.inl 1009)
    unfold zKd
    rw [if_pos hm.2, if_pos hm.1]
  · exact z_str (j := 12) (by decide) rfl rfl rfl (by decide) (fun k hk => z_rv ⟨k, hk⟩)
  · exact z_str (j := 20) (by decide) rfl rfl rfl (by decide) (fun k hk => ⟨(z_w1 ⟨k, hk⟩).1, (z_w1 ⟨k, hk⟩).2.2⟩)
  · exact z_str (j := 21) (by decide) rfl rfl rfl (by decide) (fun k hk => ⟨(z_w2 ⟨k, hk⟩).1, (z_w2 ⟨k, hk⟩).2.2⟩)
  · exact z_str (j := 22) (by decide) rfl rfl rfl (by decide) (fun k hk => z_w4 ⟨k, hk⟩)
end ZK
