-- ===== the model: short questions =====
theorem R_121 : PG.2.1 121 = (some .int) := rfl
theorem m_121 {h : Mm} (H : MO h) : dM PG 121 [.ref 277] h = some (.inl (some (.int (if h.mi 277 21 = 0 then 0 else h.mi 283 9))), h.si 277 0 0) := by
  rw [dM_of (Nat.le_of_ble_eq_true rfl)]
  have z : Int32.ofNat 9 = 9 := rfl
  have g := m_201 (c := 9) (by decide) H
  rw [z] at g
  simp -implicitDefEqProofs only [D_121_0, k_121_0, R_121, v_aload_n, g_bipush, v_callV2, aft_v, aft_n, g_ireturn, entL, getL, setL, kL_i, kL_r, isI_s, isR_s, isJ_s, gV_s, iV_i, cs0, cs1, cs2, cs3, cs4, dn_nil, kd_si, kd_sl, kd_sw, mr_si, mr_sl, mr_sw, ml_si, ml_sw, mi_sl, mk_277 H, g, retX_int]
theorem R_101 : PG.2.1 101 = (some .int) := rfl
theorem m_101 {h : Mm} (H : MO h) : dM PG 101 [.ref 277] h = some (.inl (some (.int (if h.mi 277 21 = 0 then 0 else h.mi 283 8))), h.si 277 0 0) := by
  rw [dM_of (Nat.le_of_ble_eq_true rfl)]
  have z : Int32.ofNat 8 = 8 := rfl
  have g := m_201 (c := 8) (by decide) H
  rw [z] at g
  simp -implicitDefEqProofs only [D_101_0, k_101_0, R_101, v_aload_n, g_bipush, v_callV2, aft_v, aft_n, g_ireturn, entL, getL, setL, kL_i, kL_r, isI_s, isR_s, isJ_s, gV_s, iV_i, cs0, cs1, cs2, cs3, cs4, dn_nil, kd_si, kd_sl, kd_sw, mr_si, mr_sl, mr_sw, ml_si, ml_sw, mi_sl, mk_277 H, g, retX_int]
theorem R_85 : PG.2.1 85 = (some .int) := rfl
theorem m_85 {h : Mm} (H : MO h) : dM PG 85 [.ref 277] h = some (.inl (some (.int (if h.mi 277 21 = 0 then 0 else h.mi 283 0))), h.si 277 0 0) := by
  rw [dM_of (Nat.le_of_ble_eq_true rfl)]
  have z : Int32.ofNat 0 = 0 := rfl
  have g := m_201 (c := 0) (by decide) H
  rw [z] at g
  simp -implicitDefEqProofs only [D_85_0, k_85_0, R_85, v_aload_n, g_iconst, v_callV2, aft_v, aft_n, g_ireturn, entL, getL, setL, kL_i, kL_r, isI_s, isR_s, isJ_s, gV_s, iV_i, cs0, cs1, cs2, cs3, cs4, dn_nil, kd_si, kd_sl, kd_sw, mr_si, mr_sl, mr_sw, ml_si, ml_sw, mi_sl, mk_277 H, g, retX_int]
theorem R_83 : PG.2.1 83 = (some .int) := rfl
theorem m_83 {h : Mm} (H : MO h) : dM PG 83 [.ref 277] h = some (.inl (some (.int (if h.mi 277 21 = 0 then 0 else h.mi 283 1))), h.si 277 0 0) := by
  rw [dM_of (Nat.le_of_ble_eq_true rfl)]
  have z : Int32.ofNat 1 = 1 := rfl
  have g := m_201 (c := 1) (by decide) H
  rw [z] at g
  simp -implicitDefEqProofs only [D_83_0, k_83_0, R_83, v_aload_n, g_iconst, v_callV2, aft_v, aft_n, g_ireturn, entL, getL, setL, kL_i, kL_r, isI_s, isR_s, isJ_s, gV_s, iV_i, cs0, cs1, cs2, cs3, cs4, dn_nil, kd_si, kd_sl, kd_sw, mr_si, mr_sl, mr_sw, ml_si, ml_sw, mi_sl, mk_277 H, g, retX_int]
theorem R_81 : PG.2.1 81 = (some .int) := rfl
theorem m_81 {h : Mm} (H : MO h) : dM PG 81 [.ref 277] h = some (.inl (some (.int (if h.mi 277 21 = 0 then 0 else h.mi 283 7))), h.si 277 0 0) := by
  rw [dM_of (Nat.le_of_ble_eq_true rfl)]
  have z : Int32.ofNat 7 = 7 := rfl
  have g := m_201 (c := 7) (by decide) H
  rw [z] at g
  simp -implicitDefEqProofs only [D_81_0, k_81_0, R_81, v_aload_n, g_bipush, v_callV2, aft_v, aft_n, g_ireturn, entL, getL, setL, kL_i, kL_r, isI_s, isR_s, isJ_s, gV_s, iV_i, cs0, cs1, cs2, cs3, cs4, dn_nil, kd_si, kd_sl, kd_sw, mr_si, mr_sl, mr_sw, ml_si, ml_sw, mi_sl, mk_277 H, g, retX_int]
theorem R_77 : PG.2.1 77 = (some .int) := rfl
theorem m_77 {h : Mm} (H : MO h) : dM PG 77 [.ref 277] h = some (.inl (some (.int (if h.mi 277 21 = 0 then 0 else h.mi 283 3))), h.si 277 0 0) := by
  rw [dM_of (Nat.le_of_ble_eq_true rfl)]
  have z : Int32.ofNat 3 = 3 := rfl
  have g := m_201 (c := 3) (by decide) H
  rw [z] at g
  simp -implicitDefEqProofs only [D_77_0, k_77_0, R_77, v_aload_n, g_iconst, v_callV2, aft_v, aft_n, g_ireturn, entL, getL, setL, kL_i, kL_r, isI_s, isR_s, isJ_s, gV_s, iV_i, cs0, cs1, cs2, cs3, cs4, dn_nil, kd_si, kd_sl, kd_sw, mr_si, mr_sl, mr_sw, ml_si, ml_sw, mi_sl, mk_277 H, g, retX_int]
theorem R_75 : PG.2.1 75 = (some .int) := rfl
theorem m_75 {h : Mm} (H : MO h) : dM PG 75 [.ref 277] h = some (.inl (some (.int (if h.mi 277 21 = 0 then 0 else h.mi 283 4))), h.si 277 0 0) := by
  rw [dM_of (Nat.le_of_ble_eq_true rfl)]
  have z : Int32.ofNat 4 = 4 := rfl
  have g := m_201 (c := 4) (by decide) H
  rw [z] at g
  simp -implicitDefEqProofs only [D_75_0, k_75_0, R_75, v_aload_n, g_iconst, v_callV2, aft_v, aft_n, g_ireturn, entL, getL, setL, kL_i, kL_r, isI_s, isR_s, isJ_s, gV_s, iV_i, cs0, cs1, cs2, cs3, cs4, dn_nil, kd_si, kd_sl, kd_sw, mr_si, mr_sl, mr_sw, ml_si, ml_sw, mi_sl, mk_277 H, g, retX_int]
theorem R_69 : PG.2.1 69 = (some .int) := rfl
theorem m_69 {h : Mm} (H : MO h) : dM PG 69 [.ref 277] h = some (.inl (some (.int (if h.mi 277 21 = 0 then 0 else h.mi 283 6))), h.si 277 0 0) := by
  rw [dM_of (Nat.le_of_ble_eq_true rfl)]
  have z : Int32.ofNat 6 = 6 := rfl
  have g := m_201 (c := 6) (by decide) H
  rw [z] at g
  simp -implicitDefEqProofs only [D_69_0, k_69_0, R_69, v_aload_n, g_bipush, v_callV2, aft_v, aft_n, g_ireturn, entL, getL, setL, kL_i, kL_r, isI_s, isR_s, isJ_s, gV_s, iV_i, cs0, cs1, cs2, cs3, cs4, dn_nil, kd_si, kd_sl, kd_sw, mr_si, mr_sl, mr_sw, ml_si, ml_sw, mi_sl, mk_277 H, g, retX_int]
theorem R_117 : PG.2.1 117 = (some .int) := rfl
theorem m_117 {i : Int32} {n : Nat} (hn : n ≤ 80) {h : Mm} (H : MO h) (hm : h.mi 283 9 = Int32.ofNat n) : dM PG 117 [.ref 277, .int i] h = some (.inl (some (.int (if mayF (h.mi 277 21) (inF i 0 (h.mi 283 9 - 1)) = 0 then h.mi 283 (208 + i.toNatClampNeg) else 0))), h.si 277 0 (mayF (h.mi 277 21) (inF i 0 (h.mi 283 9 - 1)))) := by
  rw [dM_of (Nat.le_of_ble_eq_true rfl)]
  have z : Int32.ofNat 208 = 208 := rfl
  have g := m_222 (i := i) (r := 208) hn (by decide) H hm
  rw [z] at g
  simp -implicitDefEqProofs only [D_117_0, k_117_0, R_117, v_aload_n, v_iload_n, g_sipush, v_callV3, aft_v, aft_n, g_ireturn, entL, getL, setL, kL_i, kL_r, isI_s, isR_s, isJ_s, gV_s, iV_i, cs0, cs1, cs2, cs3, cs4, dn_nil, kd_si, kd_sl, kd_sw, mr_si, mr_sl, mr_sw, ml_si, ml_sw, mi_sl, mk_277 H, g, retX_int]
theorem R_113 : PG.2.1 113 = (some .int) := rfl
theorem m_113 {i : Int32} {n : Nat} (hn : n ≤ 80) {h : Mm} (H : MO h) (hm : h.mi 283 9 = Int32.ofNat n) : dM PG 113 [.ref 277, .int i] h = some (.inl (some (.int (if mayF (h.mi 277 21) (inF i 0 (h.mi 283 9 - 1)) = 0 then h.mi 283 (288 + i.toNatClampNeg) else 0))), h.si 277 0 (mayF (h.mi 277 21) (inF i 0 (h.mi 283 9 - 1)))) := by
  rw [dM_of (Nat.le_of_ble_eq_true rfl)]
  have z : Int32.ofNat 288 = 288 := rfl
  have g := m_222 (i := i) (r := 288) hn (by decide) H hm
  rw [z] at g
  simp -implicitDefEqProofs only [D_113_0, k_113_0, R_113, v_aload_n, v_iload_n, g_sipush, v_callV3, aft_v, aft_n, g_ireturn, entL, getL, setL, kL_i, kL_r, isI_s, isR_s, isJ_s, gV_s, iV_i, cs0, cs1, cs2, cs3, cs4, dn_nil, kd_si, kd_sl, kd_sw, mr_si, mr_sl, mr_sw, ml_si, ml_sw, mi_sl, mk_277 H, g, retX_int]
theorem R_111 : PG.2.1 111 = (some .int) := rfl
theorem m_111 {i : Int32} {n : Nat} (hn : n ≤ 80) {h : Mm} (H : MO h) (hm : h.mi 283 9 = Int32.ofNat n) : dM PG 111 [.ref 277, .int i] h = some (.inl (some (.int (if mayF (h.mi 277 21) (inF i 0 (h.mi 283 9 - 1)) = 0 then h.mi 283 (48 + i.toNatClampNeg) else 0))), h.si 277 0 (mayF (h.mi 277 21) (inF i 0 (h.mi 283 9 - 1)))) := by
  rw [dM_of (Nat.le_of_ble_eq_true rfl)]
  have z : Int32.ofNat 48 = 48 := rfl
  have g := m_222 (i := i) (r := 48) hn (by decide) H hm
  rw [z] at g
  simp -implicitDefEqProofs only [D_111_0, k_111_0, R_111, v_aload_n, v_iload_n, g_bipush, v_callV3, aft_v, aft_n, g_ireturn, entL, getL, setL, kL_i, kL_r, isI_s, isR_s, isJ_s, gV_s, iV_i, cs0, cs1, cs2, cs3, cs4, dn_nil, kd_si, kd_sl, kd_sw, mr_si, mr_sl, mr_sw, ml_si, ml_sw, mi_sl, mk_277 H, g, retX_int]
theorem R_99 : PG.2.1 99 = (some .int) := rfl
theorem m_99 {i : Int32} {n : Nat} (hn : n ≤ 80) {h : Mm} (H : MO h) (hm : h.mi 283 8 = Int32.ofNat n) : dM PG 99 [.ref 277, .int i] h = some (.inl (some (.int (if mayF (h.mi 277 21) (inF i 0 (h.mi 283 8 - 1)) = 0 then h.mi 283 (688 + i.toNatClampNeg) else 0))), h.si 277 0 (mayF (h.mi 277 21) (inF i 0 (h.mi 283 8 - 1)))) := by
  rw [dM_of (Nat.le_of_ble_eq_true rfl)]
  have z : Int32.ofNat 688 = 688 := rfl
  have g := m_210 (i := i) (r := 688) hn (by decide) H hm
  rw [z] at g
  simp -implicitDefEqProofs only [D_99_0, k_99_0, R_99, v_aload_n, v_iload_n, g_sipush, v_callV3, aft_v, aft_n, g_ireturn, entL, getL, setL, kL_i, kL_r, isI_s, isR_s, isJ_s, gV_s, iV_i, cs0, cs1, cs2, cs3, cs4, dn_nil, kd_si, kd_sl, kd_sw, mr_si, mr_sl, mr_sw, ml_si, ml_sw, mi_sl, mk_277 H, g, retX_int]
theorem R_97 : PG.2.1 97 = (some .int) := rfl
theorem m_97 {i : Int32} {n : Nat} (hn : n ≤ 80) {h : Mm} (H : MO h) (hm : h.mi 283 8 = Int32.ofNat n) : dM PG 97 [.ref 277, .int i] h = some (.inl (some (.int (if mayF (h.mi 277 21) (inF i 0 (h.mi 283 8 - 1)) = 0 then h.mi 283 (768 + i.toNatClampNeg) else 0))), h.si 277 0 (mayF (h.mi 277 21) (inF i 0 (h.mi 283 8 - 1)))) := by
  rw [dM_of (Nat.le_of_ble_eq_true rfl)]
  have z : Int32.ofNat 768 = 768 := rfl
  have g := m_210 (i := i) (r := 768) hn (by decide) H hm
  rw [z] at g
  simp -implicitDefEqProofs only [D_97_0, k_97_0, R_97, v_aload_n, v_iload_n, g_sipush, v_callV3, aft_v, aft_n, g_ireturn, entL, getL, setL, kL_i, kL_r, isI_s, isR_s, isJ_s, gV_s, iV_i, cs0, cs1, cs2, cs3, cs4, dn_nil, kd_si, kd_sl, kd_sw, mr_si, mr_sl, mr_sw, ml_si, ml_sw, mi_sl, mk_277 H, g, retX_int]
theorem R_95 : PG.2.1 95 = (some .int) := rfl
theorem m_95 {i : Int32} {n : Nat} (hn : n ≤ 80) {h : Mm} (H : MO h) (hm : h.mi 283 8 = Int32.ofNat n) : dM PG 95 [.ref 277, .int i] h = some (.inl (some (.int (if mayF (h.mi 277 21) (inF i 0 (h.mi 283 8 - 1)) = 0 then h.mi 283 (848 + i.toNatClampNeg) else 0))), h.si 277 0 (mayF (h.mi 277 21) (inF i 0 (h.mi 283 8 - 1)))) := by
  rw [dM_of (Nat.le_of_ble_eq_true rfl)]
  have z : Int32.ofNat 848 = 848 := rfl
  have g := m_210 (i := i) (r := 848) hn (by decide) H hm
  rw [z] at g
  simp -implicitDefEqProofs only [D_95_0, k_95_0, R_95, v_aload_n, v_iload_n, g_sipush, v_callV3, aft_v, aft_n, g_ireturn, entL, getL, setL, kL_i, kL_r, isI_s, isR_s, isJ_s, gV_s, iV_i, cs0, cs1, cs2, cs3, cs4, dn_nil, kd_si, kd_sl, kd_sw, mr_si, mr_sl, mr_sw, ml_si, ml_sw, mi_sl, mk_277 H, g, retX_int]
theorem R_93 : PG.2.1 93 = (some .int) := rfl
theorem m_93 {i : Int32} {n : Nat} (hn : n ≤ 80) {h : Mm} (H : MO h) (hm : h.mi 283 8 = Int32.ofNat n) : dM PG 93 [.ref 277, .int i] h = some (.inl (some (.int (if mayF (h.mi 277 21) (inF i 0 (h.mi 283 8 - 1)) = 0 then h.mi 283 (928 + i.toNatClampNeg) else 0))), h.si 277 0 (mayF (h.mi 277 21) (inF i 0 (h.mi 283 8 - 1)))) := by
  rw [dM_of (Nat.le_of_ble_eq_true rfl)]
  have z : Int32.ofNat 928 = 928 := rfl
  have g := m_210 (i := i) (r := 928) hn (by decide) H hm
  rw [z] at g
  simp -implicitDefEqProofs only [D_93_0, k_93_0, R_93, v_aload_n, v_iload_n, g_sipush, v_callV3, aft_v, aft_n, g_ireturn, entL, getL, setL, kL_i, kL_r, isI_s, isR_s, isJ_s, gV_s, iV_i, cs0, cs1, cs2, cs3, cs4, dn_nil, kd_si, kd_sl, kd_sw, mr_si, mr_sl, mr_sw, ml_si, ml_sw, mi_sl, mk_277 H, g, retX_int]
theorem R_91 : PG.2.1 91 = (some .int) := rfl
theorem m_91 {i : Int32} {n : Nat} (hn : n ≤ 80) {h : Mm} (H : MO h) (hm : h.mi 283 8 = Int32.ofNat n) : dM PG 91 [.ref 277, .int i] h = some (.inl (some (.int (if mayF (h.mi 277 21) (inF i 0 (h.mi 283 8 - 1)) = 0 then h.mi 283 (1088 + i.toNatClampNeg) else 0))), h.si 277 0 (mayF (h.mi 277 21) (inF i 0 (h.mi 283 8 - 1)))) := by
  rw [dM_of (Nat.le_of_ble_eq_true rfl)]
  have z : Int32.ofNat 1088 = 1088 := rfl
  have g := m_210 (i := i) (r := 1088) hn (by decide) H hm
  rw [z] at g
  simp -implicitDefEqProofs only [D_91_0, k_91_0, R_91, v_aload_n, v_iload_n, g_sipush, v_callV3, aft_v, aft_n, g_ireturn, entL, getL, setL, kL_i, kL_r, isI_s, isR_s, isJ_s, gV_s, iV_i, cs0, cs1, cs2, cs3, cs4, dn_nil, kd_si, kd_sl, kd_sw, mr_si, mr_sl, mr_sw, ml_si, ml_sw, mi_sl, mk_277 H, g, retX_int]
theorem R_67 : PG.2.1 67 = (some .int) := rfl
theorem m_67 {i : Int32} {n : Nat} (hn : n ≤ 4) {h : Mm} (H : MO h) (hm : h.mi 279 7 = Int32.ofNat n) : dM PG 67 [.ref 277, .int i] h = some (.inl (some (.int (if mayF (h.mi 277 21) (inF i 0 (h.mi 279 7 - 1)) = 0 then h.mi 283 (18 + i.toNatClampNeg) else 0))), h.si 277 0 (mayF (h.mi 277 21) (inF i 0 (h.mi 279 7 - 1)))) := by
  rw [dM_of (Nat.le_of_ble_eq_true rfl)]
  have z : Int32.ofNat 18 = 18 := rfl
  have g := m_196 (i := i) (r := 18) hn (by decide) H hm
  rw [z] at g
  simp -implicitDefEqProofs only [D_67_0, k_67_0, R_67, v_aload_n, v_iload_n, g_bipush, v_callV3, aft_v, aft_n, g_ireturn, entL, getL, setL, kL_i, kL_r, isI_s, isR_s, isJ_s, gV_s, iV_i, cs0, cs1, cs2, cs3, cs4, dn_nil, kd_si, kd_sl, kd_sw, mr_si, mr_sl, mr_sw, ml_si, ml_sw, mi_sl, mk_277 H, g, retX_int]
theorem R_65 : PG.2.1 65 = (some .int) := rfl
theorem m_65 {i : Int32} {n : Nat} (hn : n ≤ 4) {h : Mm} (H : MO h) (hm : h.mi 279 7 = Int32.ofNat n) : dM PG 65 [.ref 277, .int i] h = some (.inl (some (.int (if mayF (h.mi 277 21) (inF i 0 (h.mi 279 7 - 1)) = 0 then h.mi 283 (22 + i.toNatClampNeg) else 0))), h.si 277 0 (mayF (h.mi 277 21) (inF i 0 (h.mi 279 7 - 1)))) := by
  rw [dM_of (Nat.le_of_ble_eq_true rfl)]
  have z : Int32.ofNat 22 = 22 := rfl
  have g := m_196 (i := i) (r := 22) hn (by decide) H hm
  rw [z] at g
  simp -implicitDefEqProofs only [D_65_0, k_65_0, R_65, v_aload_n, v_iload_n, g_bipush, v_callV3, aft_v, aft_n, g_ireturn, entL, getL, setL, kL_i, kL_r, isI_s, isR_s, isJ_s, gV_s, iV_i, cs0, cs1, cs2, cs3, cs4, dn_nil, kd_si, kd_sl, kd_sw, mr_si, mr_sl, mr_sw, ml_si, ml_sw, mi_sl, mk_277 H, g, retX_int]
theorem R_63 : PG.2.1 63 = (some .int) := rfl
theorem m_63 {i : Int32} {n : Nat} (hn : n ≤ 4) {h : Mm} (H : MO h) (hm : h.mi 279 7 = Int32.ofNat n) : dM PG 63 [.ref 277, .int i] h = some (.inl (some (.int (if mayF (h.mi 277 21) (inF i 0 (h.mi 279 7 - 1)) = 0 then h.mi 283 (14 + i.toNatClampNeg) else 0))), h.si 277 0 (mayF (h.mi 277 21) (inF i 0 (h.mi 279 7 - 1)))) := by
  rw [dM_of (Nat.le_of_ble_eq_true rfl)]
  have z : Int32.ofNat 14 = 14 := rfl
  have g := m_196 (i := i) (r := 14) hn (by decide) H hm
  rw [z] at g
  simp -implicitDefEqProofs only [D_63_0, k_63_0, R_63, v_aload_n, v_iload_n, g_bipush, v_callV3, aft_v, aft_n, g_ireturn, entL, getL, setL, kL_i, kL_r, isI_s, isR_s, isJ_s, gV_s, iV_i, cs0, cs1, cs2, cs3, cs4, dn_nil, kd_si, kd_sl, kd_sw, mr_si, mr_sl, mr_sw, ml_si, ml_sw, mi_sl, mk_277 H, g, retX_int]
theorem R_61 : PG.2.1 61 = (some .int) := rfl
theorem m_61 {i : Int32} {n : Nat} (hn : n ≤ 4) {h : Mm} (H : MO h) (hm : h.mi 279 7 = Int32.ofNat n) : dM PG 61 [.ref 277, .int i] h = some (.inl (some (.int (if mayF (h.mi 277 21) (inF i 0 (h.mi 279 7 - 1)) = 0 then h.mi 283 (10 + i.toNatClampNeg) else 0))), h.si 277 0 (mayF (h.mi 277 21) (inF i 0 (h.mi 279 7 - 1)))) := by
  rw [dM_of (Nat.le_of_ble_eq_true rfl)]
  have z : Int32.ofNat 10 = 10 := rfl
  have g := m_196 (i := i) (r := 10) hn (by decide) H hm
  rw [z] at g
  simp -implicitDefEqProofs only [D_61_0, k_61_0, R_61, v_aload_n, v_iload_n, g_bipush, v_callV3, aft_v, aft_n, g_ireturn, entL, getL, setL, kL_i, kL_r, isI_s, isR_s, isJ_s, gV_s, iV_i, cs0, cs1, cs2, cs3, cs4, dn_nil, kd_si, kd_sl, kd_sw, mr_si, mr_sl, mr_sw, ml_si, ml_sw, mi_sl, mk_277 H, g, retX_int]
theorem R_123 : PG.2.1 123 = (some .int) := rfl
theorem m_123 {h : Mm} (H : MO h) : dM PG 123 [.ref 277] h = some (.inl (some (.int (h.mi 277 2))), h.si 277 0 0) := by
  rw [dM_of (Nat.le_of_ble_eq_true rfl)]
  have k : (2 : Nat) ≠ 0 := by decide
  simp -implicitDefEqProofs only [D_123_0, k_123_0, R_123, v_aload_n, g_iconst, g_put_i, g_getfield, sv_i, rf_s, g_ireturn, entL, getL, setL, kL_i, kL_r, isI_s, isR_s, isJ_s, gV_s, iV_i, cs0, cs1, cs2, cs3, cs4, dn_nil, kd_si, kd_sl, kd_sw, mr_si, mr_sl, mr_sw, ml_si, ml_sw, mi_sl, mk_277 H, mi_sk k, retX_int]
theorem R_125 : PG.2.1 125 = (some .int) := rfl
theorem m_125 {h : Mm} (H : MO h) : dM PG 125 [.ref 277] h = some (.inl (some (.int (h.mi 277 6))), h.si 277 0 0) := by
  rw [dM_of (Nat.le_of_ble_eq_true rfl)]
  have k : (6 : Nat) ≠ 0 := by decide
  simp -implicitDefEqProofs only [D_125_0, k_125_0, R_125, v_aload_n, g_iconst, g_put_i, g_getfield, sv_i, rf_s, g_ireturn, entL, getL, setL, kL_i, kL_r, isI_s, isR_s, isJ_s, gV_s, iV_i, cs0, cs1, cs2, cs3, cs4, dn_nil, kd_si, kd_sl, kd_sw, mr_si, mr_sl, mr_sw, ml_si, ml_sw, mi_sl, mk_277 H, mi_sk k, retX_int]
theorem R_127 : PG.2.1 127 = (some .int) := rfl
theorem m_127 {h : Mm} (H : MO h) : dM PG 127 [.ref 277] h = some (.inl (some (.int (h.mi 277 5))), h.si 277 0 0) := by
  rw [dM_of (Nat.le_of_ble_eq_true rfl)]
  have k : (5 : Nat) ≠ 0 := by decide
  simp -implicitDefEqProofs only [D_127_0, k_127_0, R_127, v_aload_n, g_iconst, g_put_i, g_getfield, sv_i, rf_s, g_ireturn, entL, getL, setL, kL_i, kL_r, isI_s, isR_s, isJ_s, gV_s, iV_i, cs0, cs1, cs2, cs3, cs4, dn_nil, kd_si, kd_sl, kd_sw, mr_si, mr_sl, mr_sw, ml_si, ml_sw, mi_sl, mk_277 H, mi_sk k, retX_int]
theorem R_5 : PG.2.1 5 = (some .int) := rfl
theorem m_5 {h : Mm} (H : MO h) : dM PG 5 [.ref 277] h = some (.inl (some (.int (h.mi 277 0))), h) := by
  rw [dM_of (Nat.le_of_ble_eq_true rfl)]
  simp -implicitDefEqProofs only [D_5_0, k_5_0, R_5, v_aload_n, g_getfield, sv_i, rf_s, g_ireturn, entL, getL, setL, kL_i, kL_r, isI_s, isR_s, isJ_s, gV_s, iV_i, cs0, cs1, cs2, cs3, cs4, dn_nil, kd_si, kd_sl, kd_sw, mr_si, mr_sl, mr_sw, ml_si, ml_sw, mi_sl, mk_277 H, retX_int]
theorem R_119 : PG.2.1 119 = (some .int) := rfl
theorem m_119 {h : Mm} (H : MO h) : dM PG 119 [.ref 277] h = some (.inl (some (.int (if h.mi 277 21 = 0 then 0 else h.mi 279 7))), h.si 277 0 0) := by
  rw [dM_of (Nat.le_of_ble_eq_true rfl)]
  have k1 : (21 : Nat) ≠ 0 := by decide
  have k2 : (279 : Nat) ≠ 277 := by decide
  by_cases a : h.mi 277 21 = 0
  · simp -implicitDefEqProofs only [D_119_0, k_119_0, D_119_22, k_119_22, D_119_23, k_119_23, R_119, v_aload_n, g_iconst, g_put_i, g_getfield, sv_z, rf_s, g_if_eq, sv_a, g_bipush, v_iaload, inI_0, g_goto, g_ireturn, entL, getL, setL, kL_i, kL_r, isI_s, isR_s, isJ_s, gV_s, iV_i, cs0, cs1, cs2, cs3, cs4, dn_nil, kd_si, kd_sl, kd_sw, mr_si, mr_sl, mr_sw, ml_si, ml_sw, mi_sl, mk_277 H, mi_sk k1, a, if_true, retX_int]
  · simp -implicitDefEqProofs only [D_119_0, k_119_0, D_119_22, k_119_22, D_119_23, k_119_23, R_119, v_aload_n, g_iconst, g_put_i, g_getfield, sv_z, rf_s, g_if_eq, sv_a, g_bipush, v_iaload, inI_0, g_goto, g_ireturn, entL, getL, setL, kL_i, kL_r, isI_s, isR_s, isJ_s, gV_s, iV_i, cs0, cs1, cs2, cs3, cs4, dn_nil, kd_si, kd_sl, kd_sw, mr_si, mr_sl, mr_sw, ml_si, ml_sw, mi_sl, mk_277 H, mi_sk k1, if_neg a, mr_11 H, mk_279 H, ip_7, ix_7, mi_sa k2, retX_int]
theorem z_2 : ¬ (2 : Int32) = 0 := by decide
theorem may_1 {g : Int32} : mayF g 1 = if g = 0 then 1 else 0 := by
  unfold mayF; rw [if_neg z_1]
theorem R_71 : PG.2.1 71 = (some .int) := rfl
theorem m_71 {n : Nat} (hn : n ≤ 80) {h : Mm} (H : MO h) (h8 : h.mi 283 8 = Int32.ofNat n) : dM PG 71 [.ref 277] h = some (.inl (some (.int (if h.mi 277 21 = 0 then 0 else lateF (h.mi 283) n))), h.si 277 0 (if h.mi 277 21 = 0 then 1 else 0)) := by
  rw [dM_of (Nat.le_of_ble_eq_true rfl)]
  have k2 : (283 : Nat) ≠ 277 := by decide
  by_cases a : h.mi 277 21 = 0
  · simp -implicitDefEqProofs only [D_71_0, k_71_0, D_71_18, k_71_18, D_71_19, k_71_19, R_71, v_aload_n, g_iconst, v_callV2, aft_v, aft_n, g_if_eq, g_getfield, sv_a, rf_s, v_callS1, g_goto, g_ireturn, entL, getL, setL, kL_i, kL_r, isI_s, isR_s, isJ_s, gV_s, iV_i, cs0, cs1, cs2, cs3, cs4, dn_nil, kd_si, kd_sl, kd_sw, mr_si, mr_sl, mr_sw, ml_si, ml_sw, mi_sl, mk_277 H, m_138 H, may_1, a, if_true, if_neg z_1, retX_int]
  · have g := m_186 (s := 283) (h := h.si 277 0 0) hn (mk_283 H) (by rw [mi_sa k2]; exact h8)
    rw [mi_sa k2] at g
    simp -implicitDefEqProofs only [D_71_0, k_71_0, D_71_18, k_71_18, D_71_19, k_71_19, R_71, v_aload_n, g_iconst, v_callV2, aft_v, aft_n, g_if_eq, g_getfield, sv_a, rf_s, v_callS1, g_goto, g_ireturn, entL, getL, setL, kL_i, kL_r, isI_s, isR_s, isJ_s, gV_s, iV_i, cs0, cs1, cs2, cs3, cs4, dn_nil, kd_si, kd_sl, kd_sw, mr_si, mr_sl, mr_sw, ml_si, ml_sw, mi_sl, mk_277 H, m_138 H, may_1, if_neg a, if_true, if_neg z_1, mr_15 H, g, retX_int]
theorem R_79 : PG.2.1 79 = (some .int) := rfl
theorem m_79 {i : Int32} {n : Nat} (hn : n ≤ 10) {h : Mm} (H : MO h) (hm : h.mi 283 7 = Int32.ofNat n) : dM PG 79 [.ref 277, .int i] h = some (.inl (some (.int (if mayF (h.mi 277 21) (inF i 0 (h.mi 283 7 - 1)) = 0 then h.mi 283 (38 + i.toNatClampNeg) else 0))), h.si 277 0 (mayF (h.mi 277 21) (inF i 0 (h.mi 283 7 - 1)))) := by
  rw [dM_of (Nat.le_of_ble_eq_true rfl)]
  have k2 : (283 : Nat) ≠ 277 := by decide
  by_cases a : mayF (h.mi 277 21) (inF i 0 (h.mi 283 7 - 1)) = 0
  · have hi : inF i 0 (h.mi 283 7 - 1) ≠ 0 := by
      intro e; unfold mayF at a; rw [e] at a
      split at a
      · exact absurd a (by decide)
      · exact absurd a (by decide)
    rw [hm] at hi
    obtain ⟨q1, q2⟩ := inF_nat (by omega) hi
    have e2 : (38 : Int32) + i = Int32.ofNat (38 + i.toNatClampNeg) := by
      rw [← la_38, ← q2]
    have b_1 : inb (Int32.ofNat (38 + i.toNatClampNeg)) 1168 = true := inb_nat (by omega) (by decide)
    have n_1 : (Int32.ofNat (38 + i.toNatClampNeg)).toNatClampNeg = 38 + i.toNatClampNeg := i32_nat (by omega)
    simp -implicitDefEqProofs only [D_79_0, k_79_0, D_79_33, k_79_33, D_79_34, k_79_34, R_79, v_aload_n, v_iload_n, g_iconst, g_getfield, sv_a, rf_s, g_bipush, v_iaload, inI_0, g_isub, v_callS3, aft_v, aft_n, v_callV2, g_if_eq, g_iadd, g_goto, g_ireturn, entL, getL, setL, kL_i, kL_r, isI_s, isR_s, isJ_s, gV_s, iV_i, cs0, cs1, cs2, cs3, cs4, dn_nil, kd_si, kd_sl, kd_sw, mr_si, mr_sl, mr_sw, ml_si, ml_sw, mi_sl, mk_277 H, m_136, m_138 H, a, if_true, if_neg z_1, mr_15 H, mk_283 H, in_7, ix_7, e2, b_1, n_1, mi_sa k2, retX_int]
  · simp -implicitDefEqProofs only [D_79_0, k_79_0, D_79_33, k_79_33, D_79_34, k_79_34, R_79, v_aload_n, v_iload_n, g_iconst, g_getfield, sv_a, rf_s, g_bipush, v_iaload, inI_0, g_isub, v_callS3, aft_v, aft_n, v_callV2, g_if_eq, g_iadd, g_goto, g_ireturn, entL, getL, setL, kL_i, kL_r, isI_s, isR_s, isJ_s, gV_s, iV_i, cs0, cs1, cs2, cs3, cs4, dn_nil, kd_si, kd_sl, kd_sw, mr_si, mr_sl, mr_sw, ml_si, ml_sw, mi_sl, mk_277 H, m_136, m_138 H, if_neg a, if_true, mr_15 H, mk_283 H, in_7, ix_7, retX_int]
