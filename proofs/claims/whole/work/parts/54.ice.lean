-- ===== the model: boxes get ice; a tick =====
def wc (S : Nat → Int32) : Nat → Nat
  | 0 => 0
  | n + 1 => wc S n + (if S (1088 + n) = -1 then 1 else 0)
theorem wc_le {S : Nat → Int32} : ∀ n, wc S n ≤ n := by
  intro n
  induction n with
  | zero => exact Nat.le_refl 0
  | succ n ih =>
    show wc S n + (if S (1088 + n) = -1 then 1 else 0) ≤ n + 1
    split <;> omega
theorem wc_same {S S' : Nat → Int32} : ∀ n, (∀ j, j < n → S' (1088 + j) = S (1088 + j)) → wc S' n = wc S n := by
  intro n
  induction n with
  | zero => intro _; rfl
  | succ n ih =>
    intro h
    show wc S' n + (if S' (1088 + n) = -1 then 1 else 0) = wc S n + (if S (1088 + n) = -1 then 1 else 0)
    rw [ih (fun j hj => h j (by omega)), h n (by omega)]
theorem wc_less {S S' : Nat → Int32} {c : Nat} : ∀ n, c < n → S (1088 + c) = -1 → S' (1088 + c) ≠ -1 → (∀ j, j ≠ c → S' (1088 + j) = S (1088 + j)) → wc S' n + 1 = wc S n := by
  intro n
  induction n with
  | zero => intro h; omega
  | succ n ih =>
    intro hc h1 h2 h3
    show wc S' n + (if S' (1088 + n) = -1 then 1 else 0) + 1 = wc S n + (if S (1088 + n) = -1 then 1 else 0)
    by_cases e : n = c
    · subst e
      rw [if_pos h1, if_neg h2, wc_same n (fun j hj => h3 j (by omega))]
    · rw [h3 n e, ← ih (by omega) h1 h2 h3]; omega
theorem nwGo_mem {S : Nat → Int32} : ∀ (d b : Nat) (best : Option Nat) (c : Nat), nwGo S none d b best = some c → best = some c ∨ (b ≤ c ∧ c < b + d ∧ S (1088 + c) = -1) := by
  intro d
  induction d with
  | zero => intro b best c h; exact Or.inl h
  | succ d ih =>
    intro b best c h
    have h' : nwGo S none d (b + 1) (nwStep S none best b) = some c := h
    rcases ih _ _ _ h' with e | ⟨e1, e2, e3⟩
    · unfold nwStep at e
      split at e
      · exact Or.inl e
      · rename_i hs
        have w : S (1088 + b) = -1 := by
          have : nwSkip S none b = false := by cases q : nwSkip S none b with
            | false => rfl
            | true => exact absurd q hs
          unfold nwSkip at this
          simpa using this
        unfold nwPick at e
        split at e
        · obtain rfl := Option.some.inj e; exact Or.inr ⟨Nat.le_refl _, by omega, w⟩
        · split at e
          · obtain rfl := Option.some.inj e; exact Or.inr ⟨Nat.le_refl _, by omega, w⟩
          · exact Or.inl e
    · exact Or.inr ⟨by omega, by omega, e3⟩
def icA (per : Int32) (S : Nat → Int32) (b : Nat) : Nat → Int32 := zu S 3 (S 3 - needF S per b)
def icB (per : Int32) (S : Nat → Int32) (b : Nat) : Nat → Int32 := zu (icA per S b) 4 (icA per S b 4 + needF (icA per S b) per b)
def icStep (per : Int32) (S : Nat → Int32) (b : Nat) : Nat → Int32 := zu (icB per S b) (1088 + b) (icB per S b 0)
theorem icB_ne {per : Int32} {S : Nat → Int32} {b j : Nat} (h3 : j ≠ 3) (h4 : j ≠ 4) : icB per S b j = S j := (zu_ne h4).trans (zu_ne h3)
theorem icStep_ne {per : Int32} {S : Nat → Int32} {b j : Nat} (h3 : j ≠ 3) (h4 : j ≠ 4) (h5 : j ≠ 1088 + b) : icStep per S b j = S j := (zu_ne h5).trans (icB_ne h3 h4)
def icGo (per : Int32) (n : Nat) : Nat → (Nat → Int32) → (Nat → Int32)
  | 0, S => S
  | f + 1, S => match nwGo S none n 0 none with
    | none => S
    | some b => if S 3 < needF S per b then S else icGo per n f (icStep per S b)
theorem R_277 : PG.2.1 277 = none := rfl
theorem l_277 {s n : Nat} (hn : n ≤ 80) {h : Mm} (H : MO h) (h7 : s ≠ 279) (hk : h.kd s = some (.inr (.int, 1168))) : ∀ (f : Nat) (S : Nat → Int32), wc S n < f → S 8 = Int32.ofNat n → S 0 ≠ -1 → dB PG 277 6 [some (.ref 277), some (.ref s), some (.int (oN (nwGo S none n 0 none)))] [] (h.sw s S) = some (.inl none, h.sw s (icGo (h.mi 279 3) n f S)) := by
  intro f
  have h72 : (279 : Nat) ≠ s := fun e => h7 e.symm
  have en0 : oN none = -1 := rfl
  induction f with
  | zero => intro S hw; omega
  | succ f ih =>
    intro S hw h8 h0
    cases q : nwGo S none n 0 none with
    | none =>
      have z : icGo (h.mi 279 3) n (f + 1) S = S := by unfold icGo; rw [q]
      rw [z]
      simp -implicitDefEqProofs only [D_277_6, k_277_6, D_277_66, k_277_66, R_277, v_iload_n, g_iconst, g_icmp_eq, v_aload_n, v_callV3, aft_v, aft_n, v_iaload, inI_0, g_icmp_gt, g_dup2, g_isub, v_iastore, wrI_0, g_iadd, g_sipush, v_callS2, g_istore_n, g_goto, g_return, entL, getL, setL, kL_i, kL_r, isI_s, isR_s, isJ_s, gV_s, iV_i, cs0, cs1, cs2, cs3, cs4, dn_nil, kd_si, kd_sl, kd_sw, mr_si, mr_sl, mr_sw, ml_si, ml_sw, mi_sl, en0, if_true]
    | some b =>
      rcases nwGo_mem n 0 none b q with e | ⟨_, hb, w⟩
      · cases e
      · have hb8 : b < 80 := by omega
        have en : oN (some b) = Int32.ofNat b := rfl
        have en2 : ¬ Int32.ofNat b = -1 := oN_s (by omega)
        have b_1 : inb (Int32.ofNat (1088 + b)) 1168 = true := inb_nat (by omega) (by decide)
        have n_1 : (Int32.ofNat (1088 + b)).toNatClampNeg = 1088 + b := i32_nat (by omega)
        have g1 := m_178 (h := h.sw s S) hb8 H hk
        rw [mi_sw, mi_swo h72] at g1
        by_cases c : S 3 < needF S (h.mi 279 3) b
        · have z : icGo (h.mi 279 3) n (f + 1) S = S := by unfold icGo; rw [q]; exact if_pos c
          rw [z]
          simp -implicitDefEqProofs only [D_277_6, k_277_6, D_277_66, k_277_66, R_277, v_iload_n, g_iconst, g_icmp_eq, v_aload_n, v_callV3, aft_v, aft_n, v_iaload, inI_0, g_icmp_gt, g_dup2, g_isub, v_iastore, wrI_0, g_iadd, g_sipush, v_callS2, g_istore_n, g_goto, g_return, entL, getL, setL, kL_i, kL_r, isI_s, isR_s, isJ_s, gV_s, iV_i, cs0, cs1, cs2, cs3, cs4, dn_nil, kd_si, kd_sl, kd_sw, mr_si, mr_sl, mr_sw, ml_si, ml_sw, mi_sl, mk_277 H, hk, in_3, ix_3, mi_sw, en, if_neg en2, g1, if_pos c]
        · have z : icGo (h.mi 279 3) n (f + 1) S = icGo (h.mi 279 3) n f (icStep (h.mi 279 3) S b) := by
            show (match nwGo S none n 0 none with | none => S | some b => if S 3 < needF S (h.mi 279 3) b then S else icGo (h.mi 279 3) n f (icStep (h.mi 279 3) S b)) = _
            rw [q]; exact if_neg c
          have hw2 : wc (icStep (h.mi 279 3) S b) n + 1 = wc S n := by
            refine wc_less n (by omega) w ?_ ?_
            · unfold icStep; rw [zu_same, icB_ne (by omega) (by omega)]; exact h0
            · intro j hj; exact icStep_ne (by omega) (by omega) (by omega)
          have h82 : icStep (h.mi 279 3) S b 8 = Int32.ofNat n := by rw [icStep_ne (by omega) (by omega) (by omega), h8]
          rw [z, ← ih (icStep (h.mi 279 3) S b) (by omega) h82 (by rw [icStep_ne (by omega) (by omega) (by omega)]; exact h0), D_277_6]
          have g2 := m_178 (h := h.sw s (icA (h.mi 279 3) S b)) hb8 H hk
          rw [mi_sw, mi_swo h72] at g2
          have g3 := m_208 (h := h.sw s (icStep (h.mi 279 3) S b)) (beh := none) hn (fun a e => by cases e) hk (by rw [mi_sw]; exact h82)
          rw [mi_sw, en0] at g3
          unfold icStep icB at g3 ⊢
          unfold icA at g2 g3 ⊢
          simp -implicitDefEqProofs only [k_277_6, v_iload_n, g_iconst, g_icmp_eq, v_aload_n, v_callV3, aft_v, aft_n, v_iaload, inI_0, g_icmp_gt, g_dup2, g_isub, v_iastore, wrI_0, g_iadd, g_sipush, v_callS2, g_istore_n, g_goto, entL, getL, setL, kL_i, kL_r, isI_s, isR_s, isJ_s, gV_s, iV_i, cs0, cs1, cs2, cs3, cs4, dn_nil, kd_si, kd_sl, kd_sw, mr_si, mr_sl, mr_sw, ml_si, ml_sw, mi_sl, mk_277 H, hk, in_3, ix_3, in_4, ix_4, in_0, ix_0, la_1088, b_1, n_1, si_sw (a := s), sw_sw, mi_sw, en, if_neg en2, g1, if_neg c, g2, g3]
theorem m_277 {s n : Nat} (hn : n ≤ 80) {h : Mm} (H : MO h) (h7 : s ≠ 279) (hk : h.kd s = some (.inr (.int, 1168))) (h8 : h.mi s 8 = Int32.ofNat n) (h0 : h.mi s 0 ≠ -1) : dM PG 277 [.ref 277, .ref s] h = some (.inl none, h.sw s (icGo (h.mi 279 3) n 81 (h.mi s))) := by
  rw [dM_of (Nat.le_of_ble_eq_true rfl)]
  have en0 : oN none = -1 := rfl
  have g3 := m_208 (beh := none) hn (fun a e => by cases e) hk h8
  rw [en0] at g3
  have g := l_277 hn H h7 hk 81 (h.mi s) (by have := wc_le (S := h.mi s) n; omega) h8 h0
  rw [sw_id] at g
  simp -implicitDefEqProofs only [D_277_0, k_277_0, v_aload_n, g_iconst, v_callS2, aft_v, aft_n, g_istore_n, entL, getL, setL, kL_i, kL_r, isI_s, isR_s, isJ_s, gV_s, iV_i, cs0, cs1, cs2, cs3, cs4, dn_nil, kd_si, kd_sl, kd_sw, mr_si, mr_sl, mr_sw, ml_si, ml_sw, mi_sl, g3]
  exact g
